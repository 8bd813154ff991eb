/-! block equations, by wip/whole/gen_blocks.py -/
theorem E_X11_init {σ : AS} {r0 : Nat} : a_m 153 [a_r (r0)] σ = a_X 153 0 [a_r (r0)] [] σ := a_m_eq (by rw [a_entry, show m_maxL 153 = 1 from by decide +kernel]; rfl)
theorem B_X11_init_0 {k : Nat → Nat × Nat} {u : Nat → Nat → Int} {g : Nat → Nat → Nat} {t : Nat × Nat × Nat} {r0 : Nat} : a_X 153 0 [a_r (r0)] [] (k, u, g, t) = if (k r0).1 ≠ 0 then if 0 ≤ (3280 : Int) ∧ (3280 : Int) ≤ 65536 then a_X 153 10 [a_r (r0)] [a_r (t.1), a_r (r0)] (a_new (k, u, g, t) 20 (3280 : Int).toNat (3280 : Int).toNat) else none else none := by
  refine (X_aload_n (m := 153) (pc := 0) (n := 0) (by decide +kernel) rfl).trans ?_
  refine (X_objinit (m := 153) (pc := 1) (q := 1) (by decide +kernel) (by decide +kernel) (Nat.le_of_ble_eq_true rfl)).trans ?_
  refine ite_congr rfl (fun _ => ?_) (fun _ => rfl)
  refine (X_aload_n (m := 153) (pc := 4) (n := 0) (by decide +kernel) rfl).trans ?_
  refine (X_sipush (m := 153) (pc := 5) (n := 3280) (by decide +kernel) ).trans ?_
  refine (X_newa_int (m := 153) (pc := 8)  (by decide +kernel) ).trans ?_
  refine ite_congr rfl (fun _ => ?_) (fun _ => rfl)
  rfl
theorem B_X11_init_10 {k : Nat → Nat × Nat} {u : Nat → Nat → Int} {g : Nat → Nat → Nat} {t : Nat × Nat × Nat} {r0 : Nat} {q0 : Nat} {q1 : Nat} : a_X 153 10 [a_r (r0)] [a_r (q1), a_r (q0)] (k, u, g, t) = if (k q0).1 = 11 then if 0 ≤ (36080 : Int) ∧ (36080 : Int) ≤ 65536 then a_X 153 18 [a_r (r0)] [a_r (t.1), a_r (r0)] (a_new (k, u, (upm g q0 2 q1), t) 20 (36080 : Int).toNat (36080 : Int).toNat) else none else none := by
  refine (X_putR (m := 153) (pc := 10) (n := 7) (c := 11) (q := 2) (fi := true) (by decide +kernel) (by decide +kernel) (fun _ => (by decide +kernel)) (by decide +kernel)).trans ?_
  refine ite_congr rfl (fun _ => ?_) (fun _ => rfl)
  refine (X_aload_n (m := 153) (pc := 13) (n := 0) (by decide +kernel) rfl).trans ?_
  refine (X_ldc (m := 153) (pc := 14) (n := 13) (z := 36080) (by decide +kernel) (by decide +kernel)).trans ?_
  refine (X_newa_int (m := 153) (pc := 16)  (by decide +kernel) ).trans ?_
  refine ite_congr rfl (fun _ => ?_) (fun _ => rfl)
  rfl
theorem B_X11_init_18 {k : Nat → Nat × Nat} {u : Nat → Nat → Int} {g : Nat → Nat → Nat} {t : Nat × Nat × Nat} {r0 : Nat} {q0 : Nat} {q1 : Nat} : a_X 153 18 [a_r (r0)] [a_r (q1), a_r (q0)] (k, u, g, t) = if (k q0).1 = 11 then if 0 ≤ (2 : Int) ∧ (2 : Int) ≤ 65536 then a_X 153 25 [a_r (r0)] [a_r (t.1), a_r (r0)] (a_new (k, u, (upm g q0 3 q1), t) 21 (2 : Int).toNat (2 : Int).toNat) else none else none := by
  refine (X_putR (m := 153) (pc := 18) (n := 14) (c := 11) (q := 3) (fi := true) (by decide +kernel) (by decide +kernel) (fun _ => (by decide +kernel)) (by decide +kernel)).trans ?_
  refine ite_congr rfl (fun _ => ?_) (fun _ => rfl)
  refine (X_aload_n (m := 153) (pc := 21) (n := 0) (by decide +kernel) rfl).trans ?_
  refine (X_iconst (m := 153) (pc := 22) (n := 2) (by decide +kernel) ).trans ?_
  refine (X_newa_boolean (m := 153) (pc := 23)  (by decide +kernel) ).trans ?_
  refine ite_congr rfl (fun _ => ?_) (fun _ => rfl)
  rfl
theorem B_X11_init_25 {k : Nat → Nat × Nat} {u : Nat → Nat → Int} {g : Nat → Nat → Nat} {t : Nat × Nat × Nat} {r0 : Nat} {q0 : Nat} {q1 : Nat} : a_X 153 25 [a_r (r0)] [a_r (q1), a_r (q0)] (k, u, g, t) = if (k q0).1 = 11 then if 0 ≤ (500 : Int) ∧ (500 : Int) ≤ 65536 then a_X 153 34 [a_r (r0)] [a_r (t.1), a_r (r0)] (a_new (k, u, (upm g q0 5 q1), t) 20 (500 : Int).toNat (500 : Int).toNat) else none else none := by
  refine (X_putR (m := 153) (pc := 25) (n := 17) (c := 11) (q := 5) (fi := true) (by decide +kernel) (by decide +kernel) (fun _ => (by decide +kernel)) (by decide +kernel)).trans ?_
  refine ite_congr rfl (fun _ => ?_) (fun _ => rfl)
  refine (X_aload_n (m := 153) (pc := 28) (n := 0) (by decide +kernel) rfl).trans ?_
  refine (X_sipush (m := 153) (pc := 29) (n := 500) (by decide +kernel) ).trans ?_
  refine (X_newa_int (m := 153) (pc := 32)  (by decide +kernel) ).trans ?_
  refine ite_congr rfl (fun _ => ?_) (fun _ => rfl)
  rfl
theorem B_X11_init_34 {k : Nat → Nat × Nat} {u : Nat → Nat → Int} {g : Nat → Nat → Nat} {t : Nat × Nat × Nat} {r0 : Nat} {q0 : Nat} {q1 : Nat} : a_X 153 34 [a_r (r0)] [a_r (q1), a_r (q0)] (k, u, g, t) = if (k q0).1 = 11 then if (k r0).1 = 11 then if 0 ≤ (3280 : Int) ∧ (3280 : Int) ≤ 65536 then a_X 153 48 [a_r (r0)] [a_r (t.1), a_r (r0)] (a_new (k, (upm u r0 9 (-1)), (upm g q0 6 q1), t) 20 (3280 : Int).toNat (3280 : Int).toNat) else none else none else none := by
  refine (X_putR (m := 153) (pc := 34) (n := 21) (c := 11) (q := 6) (fi := true) (by decide +kernel) (by decide +kernel) (fun _ => (by decide +kernel)) (by decide +kernel)).trans ?_
  refine ite_congr rfl (fun _ => ?_) (fun _ => rfl)
  refine (X_aload_n (m := 153) (pc := 37) (n := 0) (by decide +kernel) rfl).trans ?_
  refine (X_iconst (m := 153) (pc := 38) (n := -1) (by decide +kernel) ).trans ?_
  refine (X_putI (m := 153) (pc := 39) (n := 24) (c := 11) (q := 9) (fi := false) (by decide +kernel) (by decide +kernel) (fun h => by cases h) (by decide +kernel)).trans ?_
  refine ite_congr rfl (fun _ => ?_) (fun _ => rfl)
  refine (X_aload_n (m := 153) (pc := 42) (n := 0) (by decide +kernel) rfl).trans ?_
  refine (X_sipush (m := 153) (pc := 43) (n := 3280) (by decide +kernel) ).trans ?_
  refine (X_newa_int (m := 153) (pc := 46)  (by decide +kernel) ).trans ?_
  refine ite_congr rfl (fun _ => ?_) (fun _ => rfl)
  rfl
theorem B_X11_init_48 {k : Nat → Nat × Nat} {u : Nat → Nat → Int} {g : Nat → Nat → Nat} {t : Nat × Nat × Nat} {r0 : Nat} {q0 : Nat} {q1 : Nat} : a_X 153 48 [a_r (r0)] [a_r (q1), a_r (q0)] (k, u, g, t) = if (k q0).1 = 11 then if 0 ≤ (12 : Int) ∧ (12 : Int) ≤ 65536 then a_X 153 56 [a_r (r0)] [a_r (t.1), a_r (r0)] (a_new (k, u, (upm g q0 17 q1), t) 20 (12 : Int).toNat (12 : Int).toNat) else none else none := by
  refine (X_putR (m := 153) (pc := 48) (n := 28) (c := 11) (q := 17) (fi := true) (by decide +kernel) (by decide +kernel) (fun _ => (by decide +kernel)) (by decide +kernel)).trans ?_
  refine ite_congr rfl (fun _ => ?_) (fun _ => rfl)
  refine (X_aload_n (m := 153) (pc := 51) (n := 0) (by decide +kernel) rfl).trans ?_
  refine (X_bipush (m := 153) (pc := 52) (n := 12) (by decide +kernel) ).trans ?_
  refine (X_newa_int (m := 153) (pc := 54)  (by decide +kernel) ).trans ?_
  refine ite_congr rfl (fun _ => ?_) (fun _ => rfl)
  rfl
theorem B_X11_init_56 {k : Nat → Nat × Nat} {u : Nat → Nat → Int} {g : Nat → Nat → Nat} {t : Nat × Nat × Nat} {r0 : Nat} {q0 : Nat} {q1 : Nat} : a_X 153 56 [a_r (r0)] [a_r (q1), a_r (q0)] (k, u, g, t) = if (k q0).1 = 11 then if 0 ≤ (12 : Int) ∧ (12 : Int) ≤ 65536 then a_X 153 64 [a_r (r0)] [a_r (t.1), a_r (r0)] (a_new (k, u, (upm g q0 18 q1), t) 20 (12 : Int).toNat (12 : Int).toNat) else none else none := by
  refine (X_putR (m := 153) (pc := 56) (n := 31) (c := 11) (q := 18) (fi := true) (by decide +kernel) (by decide +kernel) (fun _ => (by decide +kernel)) (by decide +kernel)).trans ?_
  refine ite_congr rfl (fun _ => ?_) (fun _ => rfl)
  refine (X_aload_n (m := 153) (pc := 59) (n := 0) (by decide +kernel) rfl).trans ?_
  refine (X_bipush (m := 153) (pc := 60) (n := 12) (by decide +kernel) ).trans ?_
  refine (X_newa_int (m := 153) (pc := 62)  (by decide +kernel) ).trans ?_
  refine ite_congr rfl (fun _ => ?_) (fun _ => rfl)
  rfl
theorem B_X11_init_64 {k : Nat → Nat × Nat} {u : Nat → Nat → Int} {g : Nat → Nat → Nat} {t : Nat × Nat × Nat} {r0 : Nat} {q0 : Nat} {q1 : Nat} : a_X 153 64 [a_r (r0)] [a_r (q1), a_r (q0)] (k, u, g, t) = if (k q0).1 = 11 then if 0 ≤ (12 : Int) ∧ (12 : Int) ≤ 65536 then a_X 153 72 [a_r (r0)] [a_r (t.1), a_r (r0)] (a_new (k, u, (upm g q0 19 q1), t) 20 (12 : Int).toNat (12 : Int).toNat) else none else none := by
  refine (X_putR (m := 153) (pc := 64) (n := 34) (c := 11) (q := 19) (fi := true) (by decide +kernel) (by decide +kernel) (fun _ => (by decide +kernel)) (by decide +kernel)).trans ?_
  refine ite_congr rfl (fun _ => ?_) (fun _ => rfl)
  refine (X_aload_n (m := 153) (pc := 67) (n := 0) (by decide +kernel) rfl).trans ?_
  refine (X_bipush (m := 153) (pc := 68) (n := 12) (by decide +kernel) ).trans ?_
  refine (X_newa_int (m := 153) (pc := 70)  (by decide +kernel) ).trans ?_
  refine ite_congr rfl (fun _ => ?_) (fun _ => rfl)
  rfl
theorem B_X11_init_72 {k : Nat → Nat × Nat} {u : Nat → Nat → Int} {g : Nat → Nat → Nat} {t : Nat × Nat × Nat} {r0 : Nat} {q0 : Nat} {q1 : Nat} : a_X 153 72 [a_r (r0)] [a_r (q1), a_r (q0)] (k, u, g, t) = if (k q0).1 = 11 then if 0 ≤ (12 : Int) ∧ (12 : Int) ≤ 65536 then a_X 153 80 [a_r (r0)] [a_r (t.1), a_r (r0)] (a_new (k, u, (upm g q0 20 q1), t) 20 (12 : Int).toNat (12 : Int).toNat) else none else none := by
  refine (X_putR (m := 153) (pc := 72) (n := 37) (c := 11) (q := 20) (fi := true) (by decide +kernel) (by decide +kernel) (fun _ => (by decide +kernel)) (by decide +kernel)).trans ?_
  refine ite_congr rfl (fun _ => ?_) (fun _ => rfl)
  refine (X_aload_n (m := 153) (pc := 75) (n := 0) (by decide +kernel) rfl).trans ?_
  refine (X_bipush (m := 153) (pc := 76) (n := 12) (by decide +kernel) ).trans ?_
  refine (X_newa_int (m := 153) (pc := 78)  (by decide +kernel) ).trans ?_
  refine ite_congr rfl (fun _ => ?_) (fun _ => rfl)
  rfl
theorem B_X11_init_80 {k : Nat → Nat × Nat} {u : Nat → Nat → Int} {g : Nat → Nat → Nat} {t : Nat × Nat × Nat} {r0 : Nat} {q0 : Nat} {q1 : Nat} : a_X 153 80 [a_r (r0)] [a_r (q1), a_r (q0)] (k, u, g, t) = if (k q0).1 = 11 then if 0 ≤ (400 : Int) ∧ (400 : Int) ≤ 65536 then a_X 153 89 [a_r (r0)] [a_r (t.1), a_r (r0)] (a_new (k, u, (upm g q0 21 q1), t) 20 (400 : Int).toNat (400 : Int).toNat) else none else none := by
  refine (X_putR (m := 153) (pc := 80) (n := 40) (c := 11) (q := 21) (fi := true) (by decide +kernel) (by decide +kernel) (fun _ => (by decide +kernel)) (by decide +kernel)).trans ?_
  refine ite_congr rfl (fun _ => ?_) (fun _ => rfl)
  refine (X_aload_n (m := 153) (pc := 83) (n := 0) (by decide +kernel) rfl).trans ?_
  refine (X_sipush (m := 153) (pc := 84) (n := 400) (by decide +kernel) ).trans ?_
  refine (X_newa_int (m := 153) (pc := 87)  (by decide +kernel) ).trans ?_
  refine ite_congr rfl (fun _ => ?_) (fun _ => rfl)
  rfl
theorem B_X11_init_89 {k : Nat → Nat × Nat} {u : Nat → Nat → Int} {g : Nat → Nat → Nat} {t : Nat × Nat × Nat} {r0 : Nat} {q0 : Nat} {q1 : Nat} : a_X 153 89 [a_r (r0)] [a_r (q1), a_r (q0)] (k, u, g, t) = if (k q0).1 = 11 then some (.inl none, (k, u, (upm g q0 23 q1), t)) else none := by
  refine (X_putR (m := 153) (pc := 89) (n := 43) (c := 11) (q := 23) (fi := true) (by decide +kernel) (by decide +kernel) (fun _ => (by decide +kernel)) (by decide +kernel)).trans ?_
  refine ite_congr rfl (fun _ => ?_) (fun _ => rfl)
  exact X_return (m := 153) (pc := 92) (by decide +kernel) (by decide +kernel)
theorem E_X11_thrown {σ : AS} {r0 : Nat} : a_m 154 [a_r (r0)] σ = a_X 154 0 [a_r (r0)] [] σ := a_m_eq (by rw [a_entry, show m_maxL 154 = 1 from by decide +kernel]; rfl)
theorem B_X11_thrown_0 {k : Nat → Nat × Nat} {u : Nat → Nat → Int} {g : Nat → Nat → Nat} {t : Nat × Nat × Nat} {r0 : Nat} : a_X 154 0 [a_r (r0)] [] (k, u, g, t) = if (k r0).1 = 11 then some (.inl (some (a_i (u r0 0))), (k, u, g, t)) else none := by
  refine (X_aload_n (m := 154) (pc := 0) (n := 0) (by decide +kernel) rfl).trans ?_
  refine (X_getI (m := 154) (pc := 1) (n := 46) (c := 11) (q := 0) (ty := 1) (fi := false) (by decide +kernel) (by decide +kernel) (by decide +kernel)).trans ?_
  refine ite_congr rfl (fun _ => ?_) (fun _ => rfl)
  exact X_ireturn (m := 154) (pc := 4) (f := 1) (by decide +kernel) (by decide +kernel) rfl
theorem E_X11_in {σ : AS} {l0 : Int} {l1 : Int} {l2 : Int} : a_m 155 [a_l (l0), a_l (l1), a_l (l2)] σ = a_X 155 0 [a_l (l0), a_x false, a_l (l1), a_x false, a_l (l2), a_x false] [] σ := a_m_eq (by rw [a_entry, show m_maxL 155 = 6 from by decide +kernel]; rfl)
theorem B_X11_in_0 {k : Nat → Nat × Nat} {u : Nat → Nat → Int} {g : Nat → Nat → Nat} {t : Nat × Nat × Nat} {l0 : Int} {l2 : Int} {l4 : Int} : a_X 155 0 [a_l (l0), a_x false, a_l (l2), a_x false, a_l (l4), a_x false] [] (k, u, g, t) = if (if (l0) < (l2) then -1 else if (l0) = (l2) then 0 else 1 : Int) < 0 then some (.inl (some (a_i (0))), (k, u, g, t)) else if (if (l0) < (l4) then -1 else if (l0) = (l4) then 0 else 1 : Int) > 0 then some (.inl (some (a_i (0))), (k, u, g, t)) else some (.inl (some (a_i (1))), (k, u, g, t)) := by
  refine (X_lload_n (m := 155) (pc := 0) (n := 0) (by decide +kernel) rfl).trans ?_
  refine (X_lload_n (m := 155) (pc := 1) (n := 2) (by decide +kernel) rfl).trans ?_
  refine (X_lcmp (m := 155) (pc := 2)  (by decide +kernel) ).trans ?_
  refine (X_if_lt (m := 155) (pc := 3) (off := 14) (tg := 17) (by decide +kernel) (by decide +kernel)).trans ?_
  refine ite_congr rfl (fun _ => ?_) (fun _ => ?_)
  · refine (X_iconst (m := 155) (pc := 17) (n := 0) (by decide +kernel) ).trans ?_
    exact X_ireturn (m := 155) (pc := 18) (f := 2) (by decide +kernel) (by decide +kernel) rfl
  · refine (X_lload_n (m := 155) (pc := 6) (n := 0) (by decide +kernel) rfl).trans ?_
    refine (X_lload (m := 155) (pc := 7) (n := 4) (by decide +kernel) rfl).trans ?_
    refine (X_lcmp (m := 155) (pc := 9)  (by decide +kernel) ).trans ?_
    refine (X_if_gt (m := 155) (pc := 10) (off := 7) (tg := 17) (by decide +kernel) (by decide +kernel)).trans ?_
    refine ite_congr rfl (fun _ => ?_) (fun _ => ?_)
    · refine (X_iconst (m := 155) (pc := 17) (n := 0) (by decide +kernel) ).trans ?_
      exact X_ireturn (m := 155) (pc := 18) (f := 2) (by decide +kernel) (by decide +kernel) rfl
    · refine (X_iconst (m := 155) (pc := 13) (n := 1) (by decide +kernel) ).trans ?_
      refine (X_goto (m := 155) (pc := 14) (off := 4) (tg := 18) (by decide +kernel) (by decide +kernel)).trans ?_
      exact X_ireturn (m := 155) (pc := 18) (f := 2) (by decide +kernel) (by decide +kernel) rfl
theorem E_X11_flag {σ : AS} {x0 : Int} : a_m 156 [a_i (x0)] σ = a_X 156 0 [a_i (x0)] [] σ := a_m_eq (by rw [a_entry, show m_maxL 156 = 1 from by decide +kernel]; rfl)
theorem B_X11_flag_0 {k : Nat → Nat × Nat} {u : Nat → Nat → Int} {g : Nat → Nat → Nat} {t : Nat × Nat × Nat} {x0 : Int} : a_X 156 0 [a_i (x0)] [] (k, u, g, t) = if (x0 : Int) = 0 then some (.inl (some (a_i (0))), (k, u, g, t)) else some (.inl (some (a_i (1))), (k, u, g, t)) := by
  refine (X_iload_n (m := 156) (pc := 0) (n := 0) (by decide +kernel) rfl).trans ?_
  refine (X_if_eq (m := 156) (pc := 1) (off := 7) (tg := 8) (by decide +kernel) (by decide +kernel)).trans ?_
  refine ite_congr rfl (fun _ => ?_) (fun _ => ?_)
  · refine (X_iconst (m := 156) (pc := 8) (n := 0) (by decide +kernel) ).trans ?_
    exact X_ireturn (m := 156) (pc := 9) (f := 1) (by decide +kernel) (by decide +kernel) rfl
  · refine (X_iconst (m := 156) (pc := 4) (n := 1) (by decide +kernel) ).trans ?_
    refine (X_goto (m := 156) (pc := 5) (off := 4) (tg := 9) (by decide +kernel) (by decide +kernel)).trans ?_
    exact X_ireturn (m := 156) (pc := 9) (f := 1) (by decide +kernel) (by decide +kernel) rfl
theorem E_X11_refuse {σ : AS} {r0 : Nat} {x1 : Int} {x2 : Int} : a_m 157 [a_r (r0), a_i (x1), a_i (x2)] σ = a_X 157 0 [a_r (r0), a_i (x1), a_i (x2)] [] σ := a_m_eq (by rw [a_entry, show m_maxL 157 = 3 from by decide +kernel]; rfl)
theorem B_X11_refuse_0 {k : Nat → Nat × Nat} {u : Nat → Nat → Int} {g : Nat → Nat → Nat} {t : Nat × Nat × Nat} {r0 : Nat} {x1 : Int} {x2 : Int} : a_X 157 0 [a_r (r0), a_i (x1), a_i (x2)] [] (k, u, g, t) = if (k r0).1 = 11 then if (u r0 0 : Int) ≠ 0 then if (k r0).1 = 11 then if (u r0 0 : Int) = 0 then some (.inl (some (a_i (0))), (k, u, g, t)) else some (.inl (some (a_i (1))), (k, u, g, t)) else none else if (x1 : Int) = 0 then if (k r0).1 = 11 then if (u r0 0 : Int) = 0 then some (.inl (some (a_i (0))), (k, u, g, t)) else some (.inl (some (a_i (1))), (k, u, g, t)) else none else if (k r0).1 = 11 then if (k r0).1 = 11 then if ((upm u r0 0 x2) r0 0 : Int) = 0 then some (.inl (some (a_i (0))), (k, (upm u r0 0 x2), g, t)) else some (.inl (some (a_i (1))), (k, (upm u r0 0 x2), g, t)) else none else none else none := by
  refine (X_aload_n (m := 157) (pc := 0) (n := 0) (by decide +kernel) rfl).trans ?_
  refine (X_getI (m := 157) (pc := 1) (n := 46) (c := 11) (q := 0) (ty := 1) (fi := false) (by decide +kernel) (by decide +kernel) (by decide +kernel)).trans ?_
  refine ite_congr rfl (fun _ => ?_) (fun _ => rfl)
  refine (X_if_ne (m := 157) (pc := 4) (off := 12) (tg := 16) (by decide +kernel) (by decide +kernel)).trans ?_
  refine ite_congr rfl (fun _ => ?_) (fun _ => ?_)
  · refine (X_aload_n (m := 157) (pc := 16) (n := 0) (by decide +kernel) rfl).trans ?_
    refine (X_getI (m := 157) (pc := 17) (n := 46) (c := 11) (q := 0) (ty := 1) (fi := false) (by decide +kernel) (by decide +kernel) (by decide +kernel)).trans ?_
    refine ite_congr rfl (fun _ => ?_) (fun _ => rfl)
    refine (X_if_eq (m := 157) (pc := 20) (off := 7) (tg := 27) (by decide +kernel) (by decide +kernel)).trans ?_
    refine ite_congr rfl (fun _ => ?_) (fun _ => ?_)
    · refine (X_iconst (m := 157) (pc := 27) (n := 0) (by decide +kernel) ).trans ?_
      exact X_ireturn (m := 157) (pc := 28) (f := 2) (by decide +kernel) (by decide +kernel) rfl
    · refine (X_iconst (m := 157) (pc := 23) (n := 1) (by decide +kernel) ).trans ?_
      refine (X_goto (m := 157) (pc := 24) (off := 4) (tg := 28) (by decide +kernel) (by decide +kernel)).trans ?_
      exact X_ireturn (m := 157) (pc := 28) (f := 2) (by decide +kernel) (by decide +kernel) rfl
  · refine (X_iload_n (m := 157) (pc := 7) (n := 1) (by decide +kernel) rfl).trans ?_
    refine (X_if_eq (m := 157) (pc := 8) (off := 8) (tg := 16) (by decide +kernel) (by decide +kernel)).trans ?_
    refine ite_congr rfl (fun _ => ?_) (fun _ => ?_)
    · refine (X_aload_n (m := 157) (pc := 16) (n := 0) (by decide +kernel) rfl).trans ?_
      refine (X_getI (m := 157) (pc := 17) (n := 46) (c := 11) (q := 0) (ty := 1) (fi := false) (by decide +kernel) (by decide +kernel) (by decide +kernel)).trans ?_
      refine ite_congr rfl (fun _ => ?_) (fun _ => rfl)
      refine (X_if_eq (m := 157) (pc := 20) (off := 7) (tg := 27) (by decide +kernel) (by decide +kernel)).trans ?_
      refine ite_congr rfl (fun _ => ?_) (fun _ => ?_)
      · refine (X_iconst (m := 157) (pc := 27) (n := 0) (by decide +kernel) ).trans ?_
        exact X_ireturn (m := 157) (pc := 28) (f := 2) (by decide +kernel) (by decide +kernel) rfl
      · refine (X_iconst (m := 157) (pc := 23) (n := 1) (by decide +kernel) ).trans ?_
        refine (X_goto (m := 157) (pc := 24) (off := 4) (tg := 28) (by decide +kernel) (by decide +kernel)).trans ?_
        exact X_ireturn (m := 157) (pc := 28) (f := 2) (by decide +kernel) (by decide +kernel) rfl
    · refine (X_aload_n (m := 157) (pc := 11) (n := 0) (by decide +kernel) rfl).trans ?_
      refine (X_iload_n (m := 157) (pc := 12) (n := 2) (by decide +kernel) rfl).trans ?_
      refine (X_putI (m := 157) (pc := 13) (n := 46) (c := 11) (q := 0) (fi := false) (by decide +kernel) (by decide +kernel) (fun h => by cases h) (by decide +kernel)).trans ?_
      refine ite_congr rfl (fun _ => ?_) (fun _ => rfl)
      refine (X_aload_n (m := 157) (pc := 16) (n := 0) (by decide +kernel) rfl).trans ?_
      refine (X_getI (m := 157) (pc := 17) (n := 46) (c := 11) (q := 0) (ty := 1) (fi := false) (by decide +kernel) (by decide +kernel) (by decide +kernel)).trans ?_
      refine ite_congr rfl (fun _ => ?_) (fun _ => rfl)
      refine (X_if_eq (m := 157) (pc := 20) (off := 7) (tg := 27) (by decide +kernel) (by decide +kernel)).trans ?_
      refine ite_congr rfl (fun _ => ?_) (fun _ => ?_)
      · refine (X_iconst (m := 157) (pc := 27) (n := 0) (by decide +kernel) ).trans ?_
        exact X_ireturn (m := 157) (pc := 28) (f := 2) (by decide +kernel) (by decide +kernel) rfl
      · refine (X_iconst (m := 157) (pc := 23) (n := 1) (by decide +kernel) ).trans ?_
        refine (X_goto (m := 157) (pc := 24) (off := 4) (tg := 28) (by decide +kernel) (by decide +kernel)).trans ?_
        exact X_ireturn (m := 157) (pc := 28) (f := 2) (by decide +kernel) (by decide +kernel) rfl
theorem E_X11_notLoaded {σ : AS} {r0 : Nat} : a_m 158 [a_r (r0)] σ = a_X 158 0 [a_r (r0)] [] σ := a_m_eq (by rw [a_entry, show m_maxL 158 = 1 from by decide +kernel]; rfl)
theorem B_X11_notLoaded_0 {k : Nat → Nat × Nat} {u : Nat → Nat → Int} {g : Nat → Nat → Nat} {t : Nat × Nat × Nat} {r0 : Nat} : a_X 158 0 [a_r (r0)] [] (k, u, g, t) = if (k r0).1 = 11 then if (k r0).1 = 11 then if ((upm u r0 0 0) r0 1 : Int) ≠ 0 then if (k r0).1 = 11 then (a_m 157 [a_r (r0), a_i (0), a_i (1)] (k, (upm u r0 0 0), g, t)).bind (a_back 158 19 3 [a_r (r0)] []) else none else if (k r0).1 = 11 then (a_m 157 [a_r (r0), a_i (1), a_i (1)] (k, (upm u r0 0 0), g, t)).bind (a_back 158 19 3 [a_r (r0)] []) else none else none else none := by
  refine (X_aload_n (m := 158) (pc := 0) (n := 0) (by decide +kernel) rfl).trans ?_
  refine (X_iconst (m := 158) (pc := 1) (n := 0) (by decide +kernel) ).trans ?_
  refine (X_putI (m := 158) (pc := 2) (n := 46) (c := 11) (q := 0) (fi := false) (by decide +kernel) (by decide +kernel) (fun h => by cases h) (by decide +kernel)).trans ?_
  refine ite_congr rfl (fun _ => ?_) (fun _ => rfl)
  refine (X_aload_n (m := 158) (pc := 5) (n := 0) (by decide +kernel) rfl).trans ?_
  refine (X_aload_n (m := 158) (pc := 6) (n := 0) (by decide +kernel) rfl).trans ?_
  refine (X_getI (m := 158) (pc := 7) (n := 49) (c := 11) (q := 1) (ty := 2) (fi := false) (by decide +kernel) (by decide +kernel) (by decide +kernel)).trans ?_
  refine ite_congr rfl (fun _ => ?_) (fun _ => rfl)
  refine (X_if_ne (m := 158) (pc := 10) (off := 7) (tg := 17) (by decide +kernel) (by decide +kernel)).trans ?_
  refine ite_congr rfl (fun _ => ?_) (fun _ => ?_)
  · refine (X_iconst (m := 158) (pc := 17) (n := 0) (by decide +kernel) ).trans ?_
    refine (X_iconst (m := 158) (pc := 18) (n := 1) (by decide +kernel) ).trans ?_
    refine (X_call_vi (m := 158) (pc := 19) (q := 53) (y := 157) (n := 3) (as := [a_r (r0), a_i (0), a_i (1)]) (rest := []) (by decide +kernel) (by decide +kernel) (by decide +kernel) (by decide +kernel) rfl rfl (Nat.le_of_ble_eq_true rfl) (Nat.le_of_ble_eq_true rfl) rfl (by rw [show m_maxL 157 = 3 from by decide +kernel]; exact Nat.le_of_ble_eq_true rfl)).trans ?_
    exact ite_congr (by simp [a_rcv, show m_recv 157 = 11 from by decide +kernel]) (fun _ => rfl) (fun _ => rfl)
  · refine (X_iconst (m := 158) (pc := 13) (n := 1) (by decide +kernel) ).trans ?_
    refine (X_goto (m := 158) (pc := 14) (off := 4) (tg := 18) (by decide +kernel) (by decide +kernel)).trans ?_
    refine (X_iconst (m := 158) (pc := 18) (n := 1) (by decide +kernel) ).trans ?_
    refine (X_call_vi (m := 158) (pc := 19) (q := 53) (y := 157) (n := 3) (as := [a_r (r0), a_i (1), a_i (1)]) (rest := []) (by decide +kernel) (by decide +kernel) (by decide +kernel) (by decide +kernel) rfl rfl (Nat.le_of_ble_eq_true rfl) (Nat.le_of_ble_eq_true rfl) rfl (by rw [show m_maxL 157 = 3 from by decide +kernel]; exact Nat.le_of_ble_eq_true rfl)).trans ?_
    exact ite_congr (by simp [a_rcv, show m_recv 157 = 11 from by decide +kernel]) (fun _ => rfl) (fun _ => rfl)
theorem B_X11_notLoaded_22 {k : Nat → Nat × Nat} {u : Nat → Nat → Int} {g : Nat → Nat → Nat} {t : Nat × Nat × Nat} {r0 : Nat} {y0 : Int} : a_X 158 22 [a_r (r0)] [a_i (y0)] (k, u, g, t) = if a_fit 2 (y0) = true then some (.inl (some (a_i (y0))), (k, u, g, t)) else none := by
  exact X_ireturnF (m := 158) (pc := 22) (f := 2) (by decide +kernel) (by decide +kernel)
theorem E_X11_noListener {σ : AS} {r0 : Nat} {x1 : Int} : a_m 159 [a_r (r0), a_i (x1)] σ = a_X 159 0 [a_r (r0), a_i (x1)] [] σ := a_m_eq (by rw [a_entry, show m_maxL 159 = 2 from by decide +kernel]; rfl)
theorem B_X11_noListener_0 {k : Nat → Nat × Nat} {u : Nat → Nat → Int} {g : Nat → Nat → Nat} {t : Nat × Nat × Nat} {r0 : Nat} {x1 : Int} : a_X 159 0 [a_r (r0), a_i (x1)] [] (k, u, g, t) = if (k r0).1 = 11 then (a_m 158 [a_r (r0)] (k, u, g, t)).bind (a_back 159 1 3 [a_r (r0), a_i (x1)] []) else none := by
  refine (X_aload_n (m := 159) (pc := 0) (n := 0) (by decide +kernel) rfl).trans ?_
  refine (X_call_vi (m := 159) (pc := 1) (q := 57) (y := 158) (n := 1) (as := [a_r (r0)]) (rest := []) (by decide +kernel) (by decide +kernel) (by decide +kernel) (by decide +kernel) rfl rfl (Nat.le_of_ble_eq_true rfl) (Nat.le_of_ble_eq_true rfl) rfl (by rw [show m_maxL 158 = 1 from by decide +kernel]; exact Nat.le_of_ble_eq_true rfl)).trans ?_
  exact ite_congr (by simp [a_rcv, show m_recv 158 = 11 from by decide +kernel]) (fun _ => rfl) (fun _ => rfl)
theorem B_X11_noListener_4 {k : Nat → Nat × Nat} {u : Nat → Nat → Int} {g : Nat → Nat → Nat} {t : Nat × Nat × Nat} {r0 : Nat} {x1 : Int} {y0 : Int} : a_X 159 4 [a_r (r0), a_i (x1)] [a_i (y0)] (k, u, g, t) = if (y0 : Int) ≠ 0 then some (.inl (some (a_i (1))), (k, u, g, t)) else if (k r0).1 = 11 then if ((k (g r0 2)).1 = 20 ∨ (k (g r0 2)).1 = 24) ∧ 0 ≤ (3 : Int) ∧ (3 : Int) < ((k (g r0 2)).2 : Int) then (a_m 155 [a_l (x1), a_l (0), a_l (wr ((u (g r0 2) (3 : Int).toNat) - 1))] (k, u, g, t)).bind (a_back 159 20 3 [a_r (r0), a_i (x1)] [a_r (r0)]) else none else none := by
  refine (X_if_ne (m := 159) (pc := 4) (off := 34) (tg := 38) (by decide +kernel) (by decide +kernel)).trans ?_
  refine ite_congr rfl (fun _ => ?_) (fun _ => ?_)
  · refine (X_iconst (m := 159) (pc := 38) (n := 1) (by decide +kernel) ).trans ?_
    refine (X_goto (m := 159) (pc := 39) (off := 4) (tg := 43) (by decide +kernel) (by decide +kernel)).trans ?_
    exact X_ireturn (m := 159) (pc := 43) (f := 2) (by decide +kernel) (by decide +kernel) rfl
  · refine (X_aload_n (m := 159) (pc := 7) (n := 0) (by decide +kernel) rfl).trans ?_
    refine (X_iload_n (m := 159) (pc := 8) (n := 1) (by decide +kernel) rfl).trans ?_
    refine (X_i2l (m := 159) (pc := 9)  (by decide +kernel) ).trans ?_
    refine (X_lconst (m := 159) (pc := 10) (n := 0) (by decide +kernel) ).trans ?_
    refine (X_aload_n (m := 159) (pc := 11) (n := 0) (by decide +kernel) rfl).trans ?_
    refine (X_getR (m := 159) (pc := 12) (n := 7) (c := 11) (q := 2) (fi := true) (by decide +kernel) (by decide +kernel)).trans ?_
    refine ite_congr rfl (fun _ => ?_) (fun _ => rfl)
    refine (X_iconst (m := 159) (pc := 15) (n := 3) (by decide +kernel) ).trans ?_
    refine (X_iaload (m := 159) (pc := 16)  (by decide +kernel) ).trans ?_
    refine ite_congr rfl (fun _ => ?_) (fun _ => rfl)
    refine (X_iconst (m := 159) (pc := 17) (n := 1) (by decide +kernel) ).trans ?_
    refine (X_isub (m := 159) (pc := 18)  (by decide +kernel) ).trans ?_
    refine (X_i2l (m := 159) (pc := 19)  (by decide +kernel) ).trans ?_
    refine (X_call_st (m := 159) (pc := 20) (q := 61) (y := 155) (n := 3) (as := [a_l (x1), a_l (0), a_l (wr ((u (g r0 2) (3 : Int).toNat) - 1))]) (rest := [a_r (r0)]) (by decide +kernel) (by decide +kernel) (by decide +kernel) (by decide +kernel) rfl rfl (Nat.le_of_ble_eq_true rfl) (Nat.le_of_ble_eq_true rfl) rfl (by rw [show m_maxL 155 = 6 from by decide +kernel]; exact Nat.le_of_ble_eq_true rfl)).trans ?_
    exact if_pos rfl
theorem B_X11_noListener_23 {k : Nat → Nat × Nat} {u : Nat → Nat → Int} {g : Nat → Nat → Nat} {t : Nat × Nat × Nat} {r0 : Nat} {x1 : Int} {q0 : Nat} {y1 : Int} : a_X 159 23 [a_r (r0), a_i (x1)] [a_i (y1), a_r (q0)] (k, u, g, t) = if (y1 : Int) ≠ 0 then if (k q0).1 = 11 then (a_m 157 [a_r (q0), a_i (0), a_i (2)] (k, u, g, t)).bind (a_back 159 32 3 [a_r (r0), a_i (x1)] []) else none else if (k q0).1 = 11 then (a_m 157 [a_r (q0), a_i (1), a_i (2)] (k, u, g, t)).bind (a_back 159 32 3 [a_r (r0), a_i (x1)] []) else none := by
  refine (X_if_ne (m := 159) (pc := 23) (off := 7) (tg := 30) (by decide +kernel) (by decide +kernel)).trans ?_
  refine ite_congr rfl (fun _ => ?_) (fun _ => ?_)
  · refine (X_iconst (m := 159) (pc := 30) (n := 0) (by decide +kernel) ).trans ?_
    refine (X_iconst (m := 159) (pc := 31) (n := 2) (by decide +kernel) ).trans ?_
    refine (X_call_vi (m := 159) (pc := 32) (q := 53) (y := 157) (n := 3) (as := [a_r (q0), a_i (0), a_i (2)]) (rest := []) (by decide +kernel) (by decide +kernel) (by decide +kernel) (by decide +kernel) rfl rfl (Nat.le_of_ble_eq_true rfl) (Nat.le_of_ble_eq_true rfl) rfl (by rw [show m_maxL 157 = 3 from by decide +kernel]; exact Nat.le_of_ble_eq_true rfl)).trans ?_
    exact ite_congr (by simp [a_rcv, show m_recv 157 = 11 from by decide +kernel]) (fun _ => rfl) (fun _ => rfl)
  · refine (X_iconst (m := 159) (pc := 26) (n := 1) (by decide +kernel) ).trans ?_
    refine (X_goto (m := 159) (pc := 27) (off := 4) (tg := 31) (by decide +kernel) (by decide +kernel)).trans ?_
    refine (X_iconst (m := 159) (pc := 31) (n := 2) (by decide +kernel) ).trans ?_
    refine (X_call_vi (m := 159) (pc := 32) (q := 53) (y := 157) (n := 3) (as := [a_r (q0), a_i (1), a_i (2)]) (rest := []) (by decide +kernel) (by decide +kernel) (by decide +kernel) (by decide +kernel) rfl rfl (Nat.le_of_ble_eq_true rfl) (Nat.le_of_ble_eq_true rfl) rfl (by rw [show m_maxL 157 = 3 from by decide +kernel]; exact Nat.le_of_ble_eq_true rfl)).trans ?_
    exact ite_congr (by simp [a_rcv, show m_recv 157 = 11 from by decide +kernel]) (fun _ => rfl) (fun _ => rfl)
theorem B_X11_noListener_35 {k : Nat → Nat × Nat} {u : Nat → Nat → Int} {g : Nat → Nat → Nat} {t : Nat × Nat × Nat} {r0 : Nat} {x1 : Int} {y0 : Int} : a_X 159 35 [a_r (r0), a_i (x1)] [a_i (y0)] (k, u, g, t) = if (y0 : Int) = 0 then some (.inl (some (a_i (0))), (k, u, g, t)) else some (.inl (some (a_i (1))), (k, u, g, t)) := by
  refine (X_if_eq (m := 159) (pc := 35) (off := 7) (tg := 42) (by decide +kernel) (by decide +kernel)).trans ?_
  refine ite_congr rfl (fun _ => ?_) (fun _ => ?_)
  · refine (X_iconst (m := 159) (pc := 42) (n := 0) (by decide +kernel) ).trans ?_
    exact X_ireturn (m := 159) (pc := 43) (f := 2) (by decide +kernel) (by decide +kernel) rfl
  · refine (X_iconst (m := 159) (pc := 38) (n := 1) (by decide +kernel) ).trans ?_
    refine (X_goto (m := 159) (pc := 39) (off := 4) (tg := 43) (by decide +kernel) (by decide +kernel)).trans ?_
    exact X_ireturn (m := 159) (pc := 43) (f := 2) (by decide +kernel) (by decide +kernel) rfl
theorem E_X11_noList {σ : AS} {r0 : Nat} {x1 : Int} : a_m 160 [a_r (r0), a_i (x1)] σ = a_X 160 0 [a_r (r0), a_i (x1)] [] σ := a_m_eq (by rw [a_entry, show m_maxL 160 = 2 from by decide +kernel]; rfl)
theorem B_X11_noList_0 {k : Nat → Nat × Nat} {u : Nat → Nat → Int} {g : Nat → Nat → Nat} {t : Nat × Nat × Nat} {r0 : Nat} {x1 : Int} : a_X 160 0 [a_r (r0), a_i (x1)] [] (k, u, g, t) = if (k r0).1 = 11 then (a_m 158 [a_r (r0)] (k, u, g, t)).bind (a_back 160 1 3 [a_r (r0), a_i (x1)] []) else none := by
  refine (X_aload_n (m := 160) (pc := 0) (n := 0) (by decide +kernel) rfl).trans ?_
  refine (X_call_vi (m := 160) (pc := 1) (q := 57) (y := 158) (n := 1) (as := [a_r (r0)]) (rest := []) (by decide +kernel) (by decide +kernel) (by decide +kernel) (by decide +kernel) rfl rfl (Nat.le_of_ble_eq_true rfl) (Nat.le_of_ble_eq_true rfl) rfl (by rw [show m_maxL 158 = 1 from by decide +kernel]; exact Nat.le_of_ble_eq_true rfl)).trans ?_
  exact ite_congr (by simp [a_rcv, show m_recv 158 = 11 from by decide +kernel]) (fun _ => rfl) (fun _ => rfl)
theorem B_X11_noList_4 {k : Nat → Nat × Nat} {u : Nat → Nat → Int} {g : Nat → Nat → Nat} {t : Nat × Nat × Nat} {r0 : Nat} {x1 : Int} {y0 : Int} : a_X 160 4 [a_r (r0), a_i (x1)] [a_i (y0)] (k, u, g, t) = if (y0 : Int) ≠ 0 then some (.inl (some (a_i (1))), (k, u, g, t)) else if (k r0).1 = 11 then if ((k (g r0 2)).1 = 20 ∨ (k (g r0 2)).1 = 24) ∧ 0 ≤ (3 : Int) ∧ (3 : Int) < ((k (g r0 2)).2 : Int) then (a_m 155 [a_l (x1), a_l (-1), a_l (wr ((u (g r0 2) (3 : Int).toNat) - 1))] (k, u, g, t)).bind (a_back 160 22 3 [a_r (r0), a_i (x1)] [a_r (r0)]) else none else none := by
  refine (X_if_ne (m := 160) (pc := 4) (off := 36) (tg := 40) (by decide +kernel) (by decide +kernel)).trans ?_
  refine ite_congr rfl (fun _ => ?_) (fun _ => ?_)
  · refine (X_iconst (m := 160) (pc := 40) (n := 1) (by decide +kernel) ).trans ?_
    refine (X_goto (m := 160) (pc := 41) (off := 4) (tg := 45) (by decide +kernel) (by decide +kernel)).trans ?_
    exact X_ireturn (m := 160) (pc := 45) (f := 2) (by decide +kernel) (by decide +kernel) rfl
  · refine (X_aload_n (m := 160) (pc := 7) (n := 0) (by decide +kernel) rfl).trans ?_
    refine (X_iload_n (m := 160) (pc := 8) (n := 1) (by decide +kernel) rfl).trans ?_
    refine (X_i2l (m := 160) (pc := 9)  (by decide +kernel) ).trans ?_
    refine (X_ldc2 (m := 160) (pc := 10) (n := 65) (z := -1) (by decide +kernel) (by decide +kernel)).trans ?_
    refine (X_aload_n (m := 160) (pc := 13) (n := 0) (by decide +kernel) rfl).trans ?_
    refine (X_getR (m := 160) (pc := 14) (n := 7) (c := 11) (q := 2) (fi := true) (by decide +kernel) (by decide +kernel)).trans ?_
    refine ite_congr rfl (fun _ => ?_) (fun _ => rfl)
    refine (X_iconst (m := 160) (pc := 17) (n := 3) (by decide +kernel) ).trans ?_
    refine (X_iaload (m := 160) (pc := 18)  (by decide +kernel) ).trans ?_
    refine ite_congr rfl (fun _ => ?_) (fun _ => rfl)
    refine (X_iconst (m := 160) (pc := 19) (n := 1) (by decide +kernel) ).trans ?_
    refine (X_isub (m := 160) (pc := 20)  (by decide +kernel) ).trans ?_
    refine (X_i2l (m := 160) (pc := 21)  (by decide +kernel) ).trans ?_
    refine (X_call_st (m := 160) (pc := 22) (q := 61) (y := 155) (n := 3) (as := [a_l (x1), a_l (-1), a_l (wr ((u (g r0 2) (3 : Int).toNat) - 1))]) (rest := [a_r (r0)]) (by decide +kernel) (by decide +kernel) (by decide +kernel) (by decide +kernel) rfl rfl (Nat.le_of_ble_eq_true rfl) (Nat.le_of_ble_eq_true rfl) rfl (by rw [show m_maxL 155 = 6 from by decide +kernel]; exact Nat.le_of_ble_eq_true rfl)).trans ?_
    exact if_pos rfl
theorem B_X11_noList_25 {k : Nat → Nat × Nat} {u : Nat → Nat → Int} {g : Nat → Nat → Nat} {t : Nat × Nat × Nat} {r0 : Nat} {x1 : Int} {q0 : Nat} {y1 : Int} : a_X 160 25 [a_r (r0), a_i (x1)] [a_i (y1), a_r (q0)] (k, u, g, t) = if (y1 : Int) ≠ 0 then if (k q0).1 = 11 then (a_m 157 [a_r (q0), a_i (0), a_i (2)] (k, u, g, t)).bind (a_back 160 34 3 [a_r (r0), a_i (x1)] []) else none else if (k q0).1 = 11 then (a_m 157 [a_r (q0), a_i (1), a_i (2)] (k, u, g, t)).bind (a_back 160 34 3 [a_r (r0), a_i (x1)] []) else none := by
  refine (X_if_ne (m := 160) (pc := 25) (off := 7) (tg := 32) (by decide +kernel) (by decide +kernel)).trans ?_
  refine ite_congr rfl (fun _ => ?_) (fun _ => ?_)
  · refine (X_iconst (m := 160) (pc := 32) (n := 0) (by decide +kernel) ).trans ?_
    refine (X_iconst (m := 160) (pc := 33) (n := 2) (by decide +kernel) ).trans ?_
    refine (X_call_vi (m := 160) (pc := 34) (q := 53) (y := 157) (n := 3) (as := [a_r (q0), a_i (0), a_i (2)]) (rest := []) (by decide +kernel) (by decide +kernel) (by decide +kernel) (by decide +kernel) rfl rfl (Nat.le_of_ble_eq_true rfl) (Nat.le_of_ble_eq_true rfl) rfl (by rw [show m_maxL 157 = 3 from by decide +kernel]; exact Nat.le_of_ble_eq_true rfl)).trans ?_
    exact ite_congr (by simp [a_rcv, show m_recv 157 = 11 from by decide +kernel]) (fun _ => rfl) (fun _ => rfl)
  · refine (X_iconst (m := 160) (pc := 28) (n := 1) (by decide +kernel) ).trans ?_
    refine (X_goto (m := 160) (pc := 29) (off := 4) (tg := 33) (by decide +kernel) (by decide +kernel)).trans ?_
    refine (X_iconst (m := 160) (pc := 33) (n := 2) (by decide +kernel) ).trans ?_
    refine (X_call_vi (m := 160) (pc := 34) (q := 53) (y := 157) (n := 3) (as := [a_r (q0), a_i (1), a_i (2)]) (rest := []) (by decide +kernel) (by decide +kernel) (by decide +kernel) (by decide +kernel) rfl rfl (Nat.le_of_ble_eq_true rfl) (Nat.le_of_ble_eq_true rfl) rfl (by rw [show m_maxL 157 = 3 from by decide +kernel]; exact Nat.le_of_ble_eq_true rfl)).trans ?_
    exact ite_congr (by simp [a_rcv, show m_recv 157 = 11 from by decide +kernel]) (fun _ => rfl) (fun _ => rfl)
theorem B_X11_noList_37 {k : Nat → Nat × Nat} {u : Nat → Nat → Int} {g : Nat → Nat → Nat} {t : Nat × Nat × Nat} {r0 : Nat} {x1 : Int} {y0 : Int} : a_X 160 37 [a_r (r0), a_i (x1)] [a_i (y0)] (k, u, g, t) = if (y0 : Int) = 0 then some (.inl (some (a_i (0))), (k, u, g, t)) else some (.inl (some (a_i (1))), (k, u, g, t)) := by
  refine (X_if_eq (m := 160) (pc := 37) (off := 7) (tg := 44) (by decide +kernel) (by decide +kernel)).trans ?_
  refine ite_congr rfl (fun _ => ?_) (fun _ => ?_)
  · refine (X_iconst (m := 160) (pc := 44) (n := 0) (by decide +kernel) ).trans ?_
    exact X_ireturn (m := 160) (pc := 45) (f := 2) (by decide +kernel) (by decide +kernel) rfl
  · refine (X_iconst (m := 160) (pc := 40) (n := 1) (by decide +kernel) ).trans ?_
    refine (X_goto (m := 160) (pc := 41) (off := 4) (tg := 45) (by decide +kernel) (by decide +kernel)).trans ?_
    exact X_ireturn (m := 160) (pc := 45) (f := 2) (by decide +kernel) (by decide +kernel) rfl
theorem E_X11_isSlot {σ : AS} {x0 : Int} : a_m 161 [a_i (x0)] σ = a_X 161 0 [a_i (x0)] [] σ := a_m_eq (by rw [a_entry, show m_maxL 161 = 1 from by decide +kernel]; rfl)
theorem B_X11_isSlot_0 {k : Nat → Nat × Nat} {u : Nat → Nat → Int} {g : Nat → Nat → Nat} {t : Nat × Nat × Nat} {x0 : Int} : a_X 161 0 [a_i (x0)] [] (k, u, g, t) = (a_m 155 [a_l (x0), a_l (0), a_l (11)] (k, u, g, t)).bind (a_back 161 6 3 [a_i (x0)] []) := by
  refine (X_iload_n (m := 161) (pc := 0) (n := 0) (by decide +kernel) rfl).trans ?_
  refine (X_i2l (m := 161) (pc := 1)  (by decide +kernel) ).trans ?_
  refine (X_lconst (m := 161) (pc := 2) (n := 0) (by decide +kernel) ).trans ?_
  refine (X_ldc2 (m := 161) (pc := 3) (n := 67) (z := 11) (by decide +kernel) (by decide +kernel)).trans ?_
  refine (X_call_st (m := 161) (pc := 6) (q := 61) (y := 155) (n := 3) (as := [a_l (x0), a_l (0), a_l (11)]) (rest := []) (by decide +kernel) (by decide +kernel) (by decide +kernel) (by decide +kernel) rfl rfl (Nat.le_of_ble_eq_true rfl) (Nat.le_of_ble_eq_true rfl) rfl (by rw [show m_maxL 155 = 6 from by decide +kernel]; exact Nat.le_of_ble_eq_true rfl)).trans ?_
  exact if_pos rfl
theorem B_X11_isSlot_9 {k : Nat → Nat × Nat} {u : Nat → Nat → Int} {g : Nat → Nat → Nat} {t : Nat × Nat × Nat} {x0 : Int} {y0 : Int} : a_X 161 9 [a_i (x0)] [a_i (y0)] (k, u, g, t) = if a_fit 2 (y0) = true then some (.inl (some (a_i (y0))), (k, u, g, t)) else none := by
  exact X_ireturnF (m := 161) (pc := 9) (f := 2) (by decide +kernel) (by decide +kernel)
theorem E_X11_isDay {σ : AS} {x0 : Int} : a_m 162 [a_i (x0)] σ = a_X 162 0 [a_i (x0)] [] σ := a_m_eq (by rw [a_entry, show m_maxL 162 = 1 from by decide +kernel]; rfl)
theorem B_X11_isDay_0 {k : Nat → Nat × Nat} {u : Nat → Nat → Int} {g : Nat → Nat → Nat} {t : Nat × Nat × Nat} {x0 : Int} : a_X 162 0 [a_i (x0)] [] (k, u, g, t) = (a_m 155 [a_l (x0), a_l (0), a_l (6)] (k, u, g, t)).bind (a_back 162 6 3 [a_i (x0)] []) := by
  refine (X_iload_n (m := 162) (pc := 0) (n := 0) (by decide +kernel) rfl).trans ?_
  refine (X_i2l (m := 162) (pc := 1)  (by decide +kernel) ).trans ?_
  refine (X_lconst (m := 162) (pc := 2) (n := 0) (by decide +kernel) ).trans ?_
  refine (X_ldc2 (m := 162) (pc := 3) (n := 69) (z := 6) (by decide +kernel) (by decide +kernel)).trans ?_
  refine (X_call_st (m := 162) (pc := 6) (q := 61) (y := 155) (n := 3) (as := [a_l (x0), a_l (0), a_l (6)]) (rest := []) (by decide +kernel) (by decide +kernel) (by decide +kernel) (by decide +kernel) rfl rfl (Nat.le_of_ble_eq_true rfl) (Nat.le_of_ble_eq_true rfl) rfl (by rw [show m_maxL 155 = 6 from by decide +kernel]; exact Nat.le_of_ble_eq_true rfl)).trans ?_
  exact if_pos rfl
theorem B_X11_isDay_9 {k : Nat → Nat × Nat} {u : Nat → Nat → Int} {g : Nat → Nat → Nat} {t : Nat × Nat × Nat} {x0 : Int} {y0 : Int} : a_X 162 9 [a_i (x0)] [a_i (y0)] (k, u, g, t) = if a_fit 2 (y0) = true then some (.inl (some (a_i (y0))), (k, u, g, t)) else none := by
  exact X_ireturnF (m := 162) (pc := 9) (f := 2) (by decide +kernel) (by decide +kernel)
theorem E_X11_copies {σ : AS} {r0 : Nat} {x1 : Int} {r2 : Nat} {x3 : Int} : a_m 163 [a_r (r0), a_i (x1), a_r (r2), a_i (x3)] σ = a_X 163 0 [a_r (r0), a_i (x1), a_r (r2), a_i (x3), a_x false] [] σ := a_m_eq (by rw [a_entry, show m_maxL 163 = 5 from by decide +kernel]; rfl)
theorem B_X11_copies_0 {k : Nat → Nat × Nat} {u : Nat → Nat → Int} {g : Nat → Nat → Nat} {t : Nat × Nat × Nat} {r0 : Nat} {x1 : Int} {r2 : Nat} {x3 : Int} {v4 : AV} : a_X 163 0 [a_r (r0), a_i (x1), a_r (r2), a_i (x3), v4] [] (k, u, g, t) = a_X 163 3 [a_r (r0), a_i (x1), a_r (r2), a_i (x3), a_i (0)] [] (k, u, g, t) := by
  refine (X_iconst (m := 163) (pc := 0) (n := 0) (by decide +kernel) ).trans ?_
  refine (X_istore (m := 163) (pc := 1) (n := 4) (by decide +kernel) rfl (Nat.le_of_ble_eq_true rfl) rfl).trans ?_
  rfl
theorem B_X11_copies_3 {k : Nat → Nat × Nat} {u : Nat → Nat → Int} {g : Nat → Nat → Nat} {t : Nat × Nat × Nat} {r0 : Nat} {x1 : Int} {r2 : Nat} {x3 : Int} {x4 : Int} : a_X 163 3 [a_r (r0), a_i (x1), a_r (r2), a_i (x3), a_i (x4)] [] (k, u, g, t) = if (x4 : Int) ≥ (3280 : Int) then some (.inl none, (k, u, g, t)) else if ((k r0).1 = 20 ∨ (k r0).1 = 24) ∧ 0 ≤ (wr (x1 + x4) : Int) ∧ (wr (x1 + x4) : Int) < ((k r0).2 : Int) then if (k r2).1 = 20 ∧ 0 ≤ (wr (x3 + x4) : Int) ∧ (wr (x3 + x4) : Int) < ((k r2).2 : Int) then a_X 163 3 [a_r (r0), a_i (x1), a_r (r2), a_i (x3), a_i (wr (x4 + 1))] [] (k, (upm u r2 (wr (x3 + x4) : Int).toNat (u r0 (wr (x1 + x4) : Int).toNat)), g, t) else none else none := by
  refine (X_iload (m := 163) (pc := 3) (n := 4) (by decide +kernel) rfl).trans ?_
  refine (X_sipush (m := 163) (pc := 5) (n := 3280) (by decide +kernel) ).trans ?_
  refine (X_ic_ge (m := 163) (pc := 8) (off := 21) (tg := 29) (by decide +kernel) (by decide +kernel)).trans ?_
  refine ite_congr rfl (fun _ => ?_) (fun _ => ?_)
  · exact X_return (m := 163) (pc := 29) (by decide +kernel) (by decide +kernel)
  · refine (X_aload_n (m := 163) (pc := 11) (n := 2) (by decide +kernel) rfl).trans ?_
    refine (X_iload_n (m := 163) (pc := 12) (n := 3) (by decide +kernel) rfl).trans ?_
    refine (X_iload (m := 163) (pc := 13) (n := 4) (by decide +kernel) rfl).trans ?_
    refine (X_iadd (m := 163) (pc := 15)  (by decide +kernel) ).trans ?_
    refine (X_aload_n (m := 163) (pc := 16) (n := 0) (by decide +kernel) rfl).trans ?_
    refine (X_iload_n (m := 163) (pc := 17) (n := 1) (by decide +kernel) rfl).trans ?_
    refine (X_iload (m := 163) (pc := 18) (n := 4) (by decide +kernel) rfl).trans ?_
    refine (X_iadd (m := 163) (pc := 20)  (by decide +kernel) ).trans ?_
    refine (X_iaload (m := 163) (pc := 21)  (by decide +kernel) ).trans ?_
    refine ite_congr rfl (fun _ => ?_) (fun _ => rfl)
    refine (X_iastore (m := 163) (pc := 22)  (by decide +kernel) ).trans ?_
    refine ite_congr rfl (fun _ => ?_) (fun _ => rfl)
    refine (X_iinc (m := 163) (pc := 23) (n := 4) (c := 1) (by decide +kernel) rfl rfl (Nat.le_of_ble_eq_true rfl) rfl).trans ?_
    refine (X_goto (m := 163) (pc := 26) (off := -23) (tg := 3) (by decide +kernel) (by decide +kernel)).trans ?_
    rfl
theorem E_X11_slotOf {σ : AS} {x0 : Int} {x1 : Int} : a_m 164 [a_i (x0), a_i (x1)] σ = a_X 164 0 [a_i (x0), a_i (x1)] [] σ := a_m_eq (by rw [a_entry, show m_maxL 164 = 2 from by decide +kernel]; rfl)
theorem B_X11_slotOf_0 {k : Nat → Nat × Nat} {u : Nat → Nat → Int} {g : Nat → Nat → Nat} {t : Nat × Nat × Nat} {x0 : Int} {x1 : Int} : a_X 164 0 [a_i (x0), a_i (x1)] [] (k, u, g, t) = some (.inl (some (a_i (wr ((wr (16 + (wr (60 * (wr (x0 + 1)))))) + (wr (5 * x1)))))), (k, u, g, t)) := by
  refine (X_bipush (m := 164) (pc := 0) (n := 16) (by decide +kernel) ).trans ?_
  refine (X_bipush (m := 164) (pc := 2) (n := 60) (by decide +kernel) ).trans ?_
  refine (X_iload_n (m := 164) (pc := 4) (n := 0) (by decide +kernel) rfl).trans ?_
  refine (X_iconst (m := 164) (pc := 5) (n := 1) (by decide +kernel) ).trans ?_
  refine (X_iadd (m := 164) (pc := 6)  (by decide +kernel) ).trans ?_
  refine (X_imul (m := 164) (pc := 7)  (by decide +kernel) ).trans ?_
  refine (X_iadd (m := 164) (pc := 8)  (by decide +kernel) ).trans ?_
  refine (X_iconst (m := 164) (pc := 9) (n := 5) (by decide +kernel) ).trans ?_
  refine (X_iload_n (m := 164) (pc := 10) (n := 1) (by decide +kernel) rfl).trans ?_
  refine (X_imul (m := 164) (pc := 11)  (by decide +kernel) ).trans ?_
  refine (X_iadd (m := 164) (pc := 12)  (by decide +kernel) ).trans ?_
  exact X_ireturn (m := 164) (pc := 13) (f := 1) (by decide +kernel) (by decide +kernel) rfl
theorem E_X11_of {σ : AS} {r0 : Nat} {x1 : Int} {x2 : Int} {x3 : Int} : a_m 165 [a_r (r0), a_i (x1), a_i (x2), a_i (x3)] σ = a_X 165 0 [a_r (r0), a_i (x1), a_i (x2), a_i (x3)] [] σ := a_m_eq (by rw [a_entry, show m_maxL 165 = 4 from by decide +kernel]; rfl)
theorem B_X11_of_0 {k : Nat → Nat × Nat} {u : Nat → Nat → Int} {g : Nat → Nat → Nat} {t : Nat × Nat × Nat} {r0 : Nat} {x1 : Int} {x2 : Int} {x3 : Int} : a_X 165 0 [a_r (r0), a_i (x1), a_i (x2), a_i (x3)] [] (k, u, g, t) = if (k r0).1 = 11 then (a_m 164 [a_i (x1), a_i (x2)] (k, u, g, t)).bind (a_back 165 6 3 [a_r (r0), a_i (x1), a_i (x2), a_i (x3)] [a_r (g r0 2)]) else none := by
  refine (X_aload_n (m := 165) (pc := 0) (n := 0) (by decide +kernel) rfl).trans ?_
  refine (X_getR (m := 165) (pc := 1) (n := 7) (c := 11) (q := 2) (fi := true) (by decide +kernel) (by decide +kernel)).trans ?_
  refine ite_congr rfl (fun _ => ?_) (fun _ => rfl)
  refine (X_iload_n (m := 165) (pc := 4) (n := 1) (by decide +kernel) rfl).trans ?_
  refine (X_iload_n (m := 165) (pc := 5) (n := 2) (by decide +kernel) rfl).trans ?_
  refine (X_call_st (m := 165) (pc := 6) (q := 71) (y := 164) (n := 2) (as := [a_i (x1), a_i (x2)]) (rest := [a_r (g r0 2)]) (by decide +kernel) (by decide +kernel) (by decide +kernel) (by decide +kernel) rfl rfl (Nat.le_of_ble_eq_true rfl) (Nat.le_of_ble_eq_true rfl) rfl (by rw [show m_maxL 164 = 2 from by decide +kernel]; exact Nat.le_of_ble_eq_true rfl)).trans ?_
  exact if_pos rfl
theorem B_X11_of_9 {k : Nat → Nat × Nat} {u : Nat → Nat → Int} {g : Nat → Nat → Nat} {t : Nat × Nat × Nat} {r0 : Nat} {x1 : Int} {x2 : Int} {x3 : Int} {q0 : Nat} {y1 : Int} : a_X 165 9 [a_r (r0), a_i (x1), a_i (x2), a_i (x3)] [a_i (y1), a_r (q0)] (k, u, g, t) = if ((k q0).1 = 20 ∨ (k q0).1 = 24) ∧ 0 ≤ (wr (y1 + x3) : Int) ∧ (wr (y1 + x3) : Int) < ((k q0).2 : Int) then some (.inl (some (a_i (u q0 (wr (y1 + x3) : Int).toNat))), (k, u, g, t)) else none := by
  refine (X_iload_n (m := 165) (pc := 9) (n := 3) (by decide +kernel) rfl).trans ?_
  refine (X_iadd (m := 165) (pc := 10)  (by decide +kernel) ).trans ?_
  refine (X_iaload (m := 165) (pc := 11)  (by decide +kernel) ).trans ?_
  refine ite_congr rfl (fun _ => ?_) (fun _ => rfl)
  exact X_ireturn (m := 165) (pc := 12) (f := 1) (by decide +kernel) (by decide +kernel) rfl
theorem E_X11_ofListener {σ : AS} {r0 : Nat} {x1 : Int} {x2 : Int} : a_m 166 [a_r (r0), a_i (x1), a_i (x2)] σ = a_X 166 0 [a_r (r0), a_i (x1), a_i (x2)] [] σ := a_m_eq (by rw [a_entry, show m_maxL 166 = 3 from by decide +kernel]; rfl)
theorem B_X11_ofListener_0 {k : Nat → Nat × Nat} {u : Nat → Nat → Int} {g : Nat → Nat → Nat} {t : Nat × Nat × Nat} {r0 : Nat} {x1 : Int} {x2 : Int} : a_X 166 0 [a_r (r0), a_i (x1), a_i (x2)] [] (k, u, g, t) = if (k r0).1 = 11 then if ((k (g r0 2)).1 = 20 ∨ (k (g r0 2)).1 = 24) ∧ 0 ≤ (wr ((wr (436 + (wr (19 * x1)))) + x2) : Int) ∧ (wr ((wr (436 + (wr (19 * x1)))) + x2) : Int) < ((k (g r0 2)).2 : Int) then some (.inl (some (a_i (u (g r0 2) (wr ((wr (436 + (wr (19 * x1)))) + x2) : Int).toNat))), (k, u, g, t)) else none else none := by
  refine (X_aload_n (m := 166) (pc := 0) (n := 0) (by decide +kernel) rfl).trans ?_
  refine (X_getR (m := 166) (pc := 1) (n := 7) (c := 11) (q := 2) (fi := true) (by decide +kernel) (by decide +kernel)).trans ?_
  refine ite_congr rfl (fun _ => ?_) (fun _ => rfl)
  refine (X_sipush (m := 166) (pc := 4) (n := 436) (by decide +kernel) ).trans ?_
  refine (X_bipush (m := 166) (pc := 7) (n := 19) (by decide +kernel) ).trans ?_
  refine (X_iload_n (m := 166) (pc := 9) (n := 1) (by decide +kernel) rfl).trans ?_
  refine (X_imul (m := 166) (pc := 10)  (by decide +kernel) ).trans ?_
  refine (X_iadd (m := 166) (pc := 11)  (by decide +kernel) ).trans ?_
  refine (X_iload_n (m := 166) (pc := 12) (n := 2) (by decide +kernel) rfl).trans ?_
  refine (X_iadd (m := 166) (pc := 13)  (by decide +kernel) ).trans ?_
  refine (X_iaload (m := 166) (pc := 14)  (by decide +kernel) ).trans ?_
  refine ite_congr rfl (fun _ => ?_) (fun _ => rfl)
  exact X_ireturn (m := 166) (pc := 15) (f := 1) (by decide +kernel) (by decide +kernel) rfl
theorem E_X11_putsListener {σ : AS} {r0 : Nat} {x1 : Int} {x2 : Int} {x3 : Int} : a_m 167 [a_r (r0), a_i (x1), a_i (x2), a_i (x3)] σ = a_X 167 0 [a_r (r0), a_i (x1), a_i (x2), a_i (x3)] [] σ := a_m_eq (by rw [a_entry, show m_maxL 167 = 4 from by decide +kernel]; rfl)
theorem B_X11_putsListener_0 {k : Nat → Nat × Nat} {u : Nat → Nat → Int} {g : Nat → Nat → Nat} {t : Nat × Nat × Nat} {r0 : Nat} {x1 : Int} {x2 : Int} {x3 : Int} : a_X 167 0 [a_r (r0), a_i (x1), a_i (x2), a_i (x3)] [] (k, u, g, t) = if (k r0).1 = 11 then if (k (g r0 2)).1 = 20 ∧ 0 ≤ (wr ((wr (436 + (wr (19 * x1)))) + x2) : Int) ∧ (wr ((wr (436 + (wr (19 * x1)))) + x2) : Int) < ((k (g r0 2)).2 : Int) then some (.inl none, (k, (upm u (g r0 2) (wr ((wr (436 + (wr (19 * x1)))) + x2) : Int).toNat x3), g, t)) else none else none := by
  refine (X_aload_n (m := 167) (pc := 0) (n := 0) (by decide +kernel) rfl).trans ?_
  refine (X_getR (m := 167) (pc := 1) (n := 7) (c := 11) (q := 2) (fi := true) (by decide +kernel) (by decide +kernel)).trans ?_
  refine ite_congr rfl (fun _ => ?_) (fun _ => rfl)
  refine (X_sipush (m := 167) (pc := 4) (n := 436) (by decide +kernel) ).trans ?_
  refine (X_bipush (m := 167) (pc := 7) (n := 19) (by decide +kernel) ).trans ?_
  refine (X_iload_n (m := 167) (pc := 9) (n := 1) (by decide +kernel) rfl).trans ?_
  refine (X_imul (m := 167) (pc := 10)  (by decide +kernel) ).trans ?_
  refine (X_iadd (m := 167) (pc := 11)  (by decide +kernel) ).trans ?_
  refine (X_iload_n (m := 167) (pc := 12) (n := 2) (by decide +kernel) rfl).trans ?_
  refine (X_iadd (m := 167) (pc := 13)  (by decide +kernel) ).trans ?_
  refine (X_iload_n (m := 167) (pc := 14) (n := 3) (by decide +kernel) rfl).trans ?_
  refine (X_iastore (m := 167) (pc := 15)  (by decide +kernel) ).trans ?_
  refine ite_congr rfl (fun _ => ?_) (fun _ => rfl)
  exact X_return (m := 167) (pc := 16) (by decide +kernel) (by decide +kernel)
theorem E_X11_grows {σ : AS} {r0 : Nat} {x1 : Int} {x2 : Int} : a_m 168 [a_r (r0), a_i (x1), a_i (x2)] σ = a_X 168 0 [a_r (r0), a_i (x1), a_i (x2)] [] σ := a_m_eq (by rw [a_entry, show m_maxL 168 = 3 from by decide +kernel]; rfl)
theorem B_X11_grows_0 {k : Nat → Nat × Nat} {u : Nat → Nat → Int} {g : Nat → Nat → Nat} {t : Nat × Nat × Nat} {r0 : Nat} {x1 : Int} {x2 : Int} : a_X 168 0 [a_r (r0), a_i (x1), a_i (x2)] [] (k, u, g, t) = if (k r0).1 = 11 then if ((k (g r0 2)).1 = 20 ∨ (k (g r0 2)).1 = 24) ∧ 0 ≤ (wr ((wr (436 + (wr (19 * x1)))) + x2) : Int) ∧ (wr ((wr (436 + (wr (19 * x1)))) + x2) : Int) < ((k (g r0 2)).2 : Int) then if (k (g r0 2)).1 = 20 ∧ 0 ≤ (wr ((wr (436 + (wr (19 * x1)))) + x2) : Int) ∧ (wr ((wr (436 + (wr (19 * x1)))) + x2) : Int) < ((k (g r0 2)).2 : Int) then some (.inl none, (k, (upm u (g r0 2) (wr ((wr (436 + (wr (19 * x1)))) + x2) : Int).toNat (wr ((u (g r0 2) (wr ((wr (436 + (wr (19 * x1)))) + x2) : Int).toNat) + 1))), g, t)) else none else none else none := by
  refine (X_aload_n (m := 168) (pc := 0) (n := 0) (by decide +kernel) rfl).trans ?_
  refine (X_getR (m := 168) (pc := 1) (n := 7) (c := 11) (q := 2) (fi := true) (by decide +kernel) (by decide +kernel)).trans ?_
  refine ite_congr rfl (fun _ => ?_) (fun _ => rfl)
  refine (X_sipush (m := 168) (pc := 4) (n := 436) (by decide +kernel) ).trans ?_
  refine (X_bipush (m := 168) (pc := 7) (n := 19) (by decide +kernel) ).trans ?_
  refine (X_iload_n (m := 168) (pc := 9) (n := 1) (by decide +kernel) rfl).trans ?_
  refine (X_imul (m := 168) (pc := 10)  (by decide +kernel) ).trans ?_
  refine (X_iadd (m := 168) (pc := 11)  (by decide +kernel) ).trans ?_
  refine (X_iload_n (m := 168) (pc := 12) (n := 2) (by decide +kernel) rfl).trans ?_
  refine (X_iadd (m := 168) (pc := 13)  (by decide +kernel) ).trans ?_
  refine (X_dup2 (m := 168) (pc := 14)  (by decide +kernel) rfl rfl rfl rfl).trans ?_
  refine (X_iaload (m := 168) (pc := 15)  (by decide +kernel) ).trans ?_
  refine ite_congr rfl (fun _ => ?_) (fun _ => rfl)
  refine (X_iconst (m := 168) (pc := 16) (n := 1) (by decide +kernel) ).trans ?_
  refine (X_iadd (m := 168) (pc := 17)  (by decide +kernel) ).trans ?_
  refine (X_iastore (m := 168) (pc := 18)  (by decide +kernel) ).trans ?_
  refine ite_congr rfl (fun _ => ?_) (fun _ => rfl)
  exact X_return (m := 168) (pc := 19) (by decide +kernel) (by decide +kernel)
theorem E_X11_ofAir {σ : AS} {r0 : Nat} {x1 : Int} {x2 : Int} : a_m 169 [a_r (r0), a_i (x1), a_i (x2)] σ = a_X 169 0 [a_r (r0), a_i (x1), a_i (x2)] [] σ := a_m_eq (by rw [a_entry, show m_maxL 169 = 3 from by decide +kernel]; rfl)
theorem B_X11_ofAir_0 {k : Nat → Nat × Nat} {u : Nat → Nat → Int} {g : Nat → Nat → Nat} {t : Nat × Nat × Nat} {r0 : Nat} {x1 : Int} {x2 : Int} : a_X 169 0 [a_r (r0), a_i (x1), a_i (x2)] [] (k, u, g, t) = if (k r0).1 = 11 then if ((k (g r0 2)).1 = 20 ∨ (k (g r0 2)).1 = 24) ∧ 0 ≤ (wr ((wr (1150 + (wr (71 * x1)))) + x2) : Int) ∧ (wr ((wr (1150 + (wr (71 * x1)))) + x2) : Int) < ((k (g r0 2)).2 : Int) then some (.inl (some (a_i (u (g r0 2) (wr ((wr (1150 + (wr (71 * x1)))) + x2) : Int).toNat))), (k, u, g, t)) else none else none := by
  refine (X_aload_n (m := 169) (pc := 0) (n := 0) (by decide +kernel) rfl).trans ?_
  refine (X_getR (m := 169) (pc := 1) (n := 7) (c := 11) (q := 2) (fi := true) (by decide +kernel) (by decide +kernel)).trans ?_
  refine ite_congr rfl (fun _ => ?_) (fun _ => rfl)
  refine (X_sipush (m := 169) (pc := 4) (n := 1150) (by decide +kernel) ).trans ?_
  refine (X_bipush (m := 169) (pc := 7) (n := 71) (by decide +kernel) ).trans ?_
  refine (X_iload_n (m := 169) (pc := 9) (n := 1) (by decide +kernel) rfl).trans ?_
  refine (X_imul (m := 169) (pc := 10)  (by decide +kernel) ).trans ?_
  refine (X_iadd (m := 169) (pc := 11)  (by decide +kernel) ).trans ?_
  refine (X_iload_n (m := 169) (pc := 12) (n := 2) (by decide +kernel) rfl).trans ?_
  refine (X_iadd (m := 169) (pc := 13)  (by decide +kernel) ).trans ?_
  refine (X_iaload (m := 169) (pc := 14)  (by decide +kernel) ).trans ?_
  refine ite_congr rfl (fun _ => ?_) (fun _ => rfl)
  exact X_ireturn (m := 169) (pc := 15) (f := 1) (by decide +kernel) (by decide +kernel) rfl
theorem E_X11_ofNumber {σ : AS} {r0 : Nat} {x1 : Int} {x2 : Int} : a_m 170 [a_r (r0), a_i (x1), a_i (x2)] σ = a_X 170 0 [a_r (r0), a_i (x1), a_i (x2)] [] σ := a_m_eq (by rw [a_entry, show m_maxL 170 = 3 from by decide +kernel]; rfl)
theorem B_X11_ofNumber_0 {k : Nat → Nat × Nat} {u : Nat → Nat → Int} {g : Nat → Nat → Nat} {t : Nat × Nat × Nat} {r0 : Nat} {x1 : Int} {x2 : Int} : a_X 170 0 [a_r (r0), a_i (x1), a_i (x2)] [] (k, u, g, t) = if (k r0).1 = 11 then if ((k (g r0 2)).1 = 20 ∨ (k (g r0 2)).1 = 24) ∧ 0 ≤ (wr ((wr (550 + (wr (6 * (wr (x1 - 1)))))) + x2) : Int) ∧ (wr ((wr (550 + (wr (6 * (wr (x1 - 1)))))) + x2) : Int) < ((k (g r0 2)).2 : Int) then some (.inl (some (a_i (u (g r0 2) (wr ((wr (550 + (wr (6 * (wr (x1 - 1)))))) + x2) : Int).toNat))), (k, u, g, t)) else none else none := by
  refine (X_aload_n (m := 170) (pc := 0) (n := 0) (by decide +kernel) rfl).trans ?_
  refine (X_getR (m := 170) (pc := 1) (n := 7) (c := 11) (q := 2) (fi := true) (by decide +kernel) (by decide +kernel)).trans ?_
  refine ite_congr rfl (fun _ => ?_) (fun _ => rfl)
  refine (X_sipush (m := 170) (pc := 4) (n := 550) (by decide +kernel) ).trans ?_
  refine (X_bipush (m := 170) (pc := 7) (n := 6) (by decide +kernel) ).trans ?_
  refine (X_iload_n (m := 170) (pc := 9) (n := 1) (by decide +kernel) rfl).trans ?_
  refine (X_iconst (m := 170) (pc := 10) (n := 1) (by decide +kernel) ).trans ?_
  refine (X_isub (m := 170) (pc := 11)  (by decide +kernel) ).trans ?_
  refine (X_imul (m := 170) (pc := 12)  (by decide +kernel) ).trans ?_
  refine (X_iadd (m := 170) (pc := 13)  (by decide +kernel) ).trans ?_
  refine (X_iload_n (m := 170) (pc := 14) (n := 2) (by decide +kernel) rfl).trans ?_
  refine (X_iadd (m := 170) (pc := 15)  (by decide +kernel) ).trans ?_
  refine (X_iaload (m := 170) (pc := 16)  (by decide +kernel) ).trans ?_
  refine ite_congr rfl (fun _ => ?_) (fun _ => rfl)
  exact X_ireturn (m := 170) (pc := 17) (f := 1) (by decide +kernel) (by decide +kernel) rfl
theorem E_X11_isNumber {σ : AS} {r0 : Nat} {x1 : Int} : a_m 171 [a_r (r0), a_i (x1)] σ = a_X 171 0 [a_r (r0), a_i (x1)] [] σ := a_m_eq (by rw [a_entry, show m_maxL 171 = 2 from by decide +kernel]; rfl)
theorem B_X11_isNumber_0 {k : Nat → Nat × Nat} {u : Nat → Nat → Int} {g : Nat → Nat → Nat} {t : Nat × Nat × Nat} {r0 : Nat} {x1 : Int} : a_X 171 0 [a_r (r0), a_i (x1)] [] (k, u, g, t) = if (k r0).1 = 11 then if ((k (g r0 2)).1 = 20 ∨ (k (g r0 2)).1 = 24) ∧ 0 ≤ (2 : Int) ∧ (2 : Int) < ((k (g r0 2)).2 : Int) then (a_m 155 [a_l (x1), a_l (1), a_l (u (g r0 2) (2 : Int).toNat)] (k, u, g, t)).bind (a_back 171 10 3 [a_r (r0), a_i (x1)] []) else none else none := by
  refine (X_iload_n (m := 171) (pc := 0) (n := 1) (by decide +kernel) rfl).trans ?_
  refine (X_i2l (m := 171) (pc := 1)  (by decide +kernel) ).trans ?_
  refine (X_lconst (m := 171) (pc := 2) (n := 1) (by decide +kernel) ).trans ?_
  refine (X_aload_n (m := 171) (pc := 3) (n := 0) (by decide +kernel) rfl).trans ?_
  refine (X_getR (m := 171) (pc := 4) (n := 7) (c := 11) (q := 2) (fi := true) (by decide +kernel) (by decide +kernel)).trans ?_
  refine ite_congr rfl (fun _ => ?_) (fun _ => rfl)
  refine (X_iconst (m := 171) (pc := 7) (n := 2) (by decide +kernel) ).trans ?_
  refine (X_iaload (m := 171) (pc := 8)  (by decide +kernel) ).trans ?_
  refine ite_congr rfl (fun _ => ?_) (fun _ => rfl)
  refine (X_i2l (m := 171) (pc := 9)  (by decide +kernel) ).trans ?_
  refine (X_call_st (m := 171) (pc := 10) (q := 61) (y := 155) (n := 3) (as := [a_l (x1), a_l (1), a_l (u (g r0 2) (2 : Int).toNat)]) (rest := []) (by decide +kernel) (by decide +kernel) (by decide +kernel) (by decide +kernel) rfl rfl (Nat.le_of_ble_eq_true rfl) (Nat.le_of_ble_eq_true rfl) rfl (by rw [show m_maxL 155 = 6 from by decide +kernel]; exact Nat.le_of_ble_eq_true rfl)).trans ?_
  exact if_pos rfl
theorem B_X11_isNumber_13 {k : Nat → Nat × Nat} {u : Nat → Nat → Int} {g : Nat → Nat → Nat} {t : Nat × Nat × Nat} {r0 : Nat} {x1 : Int} {y0 : Int} : a_X 171 13 [a_r (r0), a_i (x1)] [a_i (y0)] (k, u, g, t) = if a_fit 2 (y0) = true then some (.inl (some (a_i (y0))), (k, u, g, t)) else none := by
  exact X_ireturnF (m := 171) (pc := 13) (f := 2) (by decide +kernel) (by decide +kernel)
theorem E_X11_hasHeardIt {σ : AS} {r0 : Nat} {x1 : Int} {x2 : Int} : a_m 172 [a_r (r0), a_i (x1), a_i (x2)] σ = a_X 172 0 [a_r (r0), a_i (x1), a_i (x2)] [] σ := a_m_eq (by rw [a_entry, show m_maxL 172 = 3 from by decide +kernel]; rfl)
theorem B_X11_hasHeardIt_0 {k : Nat → Nat × Nat} {u : Nat → Nat → Int} {g : Nat → Nat → Nat} {t : Nat × Nat × Nat} {r0 : Nat} {x1 : Int} {x2 : Int} : a_X 172 0 [a_r (r0), a_i (x1), a_i (x2)] [] (k, u, g, t) = if (k r0).1 = 11 then (a_m 171 [a_r (r0), a_i (x2)] (k, u, g, t)).bind (a_back 172 2 3 [a_r (r0), a_i (x1), a_i (x2)] []) else none := by
  refine (X_aload_n (m := 172) (pc := 0) (n := 0) (by decide +kernel) rfl).trans ?_
  refine (X_iload_n (m := 172) (pc := 1) (n := 2) (by decide +kernel) rfl).trans ?_
  refine (X_call_vi (m := 172) (pc := 2) (q := 75) (y := 171) (n := 2) (as := [a_r (r0), a_i (x2)]) (rest := []) (by decide +kernel) (by decide +kernel) (by decide +kernel) (by decide +kernel) rfl rfl (Nat.le_of_ble_eq_true rfl) (Nat.le_of_ble_eq_true rfl) rfl (by rw [show m_maxL 171 = 2 from by decide +kernel]; exact Nat.le_of_ble_eq_true rfl)).trans ?_
  exact ite_congr (by simp [a_rcv, show m_recv 171 = 11 from by decide +kernel]) (fun _ => rfl) (fun _ => rfl)
theorem B_X11_hasHeardIt_5 {k : Nat → Nat × Nat} {u : Nat → Nat → Int} {g : Nat → Nat → Nat} {t : Nat × Nat × Nat} {r0 : Nat} {x1 : Int} {x2 : Int} {y0 : Int} : a_X 172 5 [a_r (r0), a_i (x1), a_i (x2)] [a_i (y0)] (k, u, g, t) = if (y0 : Int) = 0 then some (.inl (some (a_i (0))), (k, u, g, t)) else if (32 : Int) ≠ 0 then if (k r0).1 = 11 then (a_m 166 [a_r (r0), a_i (x1), a_i (wr (15 + (wr (Int.tdiv (x2) (32)))))] (k, u, g, t)).bind (a_back 172 17 3 [a_r (r0), a_i (x1), a_i (x2)] []) else none else none := by
  refine (X_if_eq (m := 172) (pc := 5) (off := 30) (tg := 35) (by decide +kernel) (by decide +kernel)).trans ?_
  refine ite_congr rfl (fun _ => ?_) (fun _ => ?_)
  · refine (X_iconst (m := 172) (pc := 35) (n := 0) (by decide +kernel) ).trans ?_
    exact X_ireturn (m := 172) (pc := 36) (f := 2) (by decide +kernel) (by decide +kernel) rfl
  · refine (X_aload_n (m := 172) (pc := 8) (n := 0) (by decide +kernel) rfl).trans ?_
    refine (X_iload_n (m := 172) (pc := 9) (n := 1) (by decide +kernel) rfl).trans ?_
    refine (X_bipush (m := 172) (pc := 10) (n := 15) (by decide +kernel) ).trans ?_
    refine (X_iload_n (m := 172) (pc := 12) (n := 2) (by decide +kernel) rfl).trans ?_
    refine (X_bipush (m := 172) (pc := 13) (n := 32) (by decide +kernel) ).trans ?_
    refine (X_idiv (m := 172) (pc := 15)  (by decide +kernel) ).trans ?_
    refine ite_congr rfl (fun _ => ?_) (fun _ => rfl)
    refine (X_iadd (m := 172) (pc := 16)  (by decide +kernel) ).trans ?_
    refine (X_call_vi (m := 172) (pc := 17) (q := 79) (y := 166) (n := 3) (as := [a_r (r0), a_i (x1), a_i (wr (15 + (wr (Int.tdiv (x2) (32)))))]) (rest := []) (by decide +kernel) (by decide +kernel) (by decide +kernel) (by decide +kernel) rfl rfl (Nat.le_of_ble_eq_true rfl) (Nat.le_of_ble_eq_true rfl) rfl (by rw [show m_maxL 166 = 3 from by decide +kernel]; exact Nat.le_of_ble_eq_true rfl)).trans ?_
    exact ite_congr (by simp [a_rcv, show m_recv 166 = 11 from by decide +kernel]) (fun _ => rfl) (fun _ => rfl)
theorem B_X11_hasHeardIt_20 {k : Nat → Nat × Nat} {u : Nat → Nat → Int} {g : Nat → Nat → Nat} {t : Nat × Nat × Nat} {r0 : Nat} {x1 : Int} {x2 : Int} {y0 : Int} : a_X 172 20 [a_r (r0), a_i (x1), a_i (x2)] [a_i (y0)] (k, u, g, t) = if (32 : Int) ≠ 0 then if (zand (zshr (y0) (Int.tmod (x2) (32))) (1) : Int) ≠ (1 : Int) then some (.inl (some (a_i (0))), (k, u, g, t)) else some (.inl (some (a_i (1))), (k, u, g, t)) else none := by
  refine (X_iload_n (m := 172) (pc := 20) (n := 2) (by decide +kernel) rfl).trans ?_
  refine (X_bipush (m := 172) (pc := 21) (n := 32) (by decide +kernel) ).trans ?_
  refine (X_irem (m := 172) (pc := 23)  (by decide +kernel) ).trans ?_
  refine ite_congr rfl (fun _ => ?_) (fun _ => rfl)
  refine (X_ishr (m := 172) (pc := 24)  (by decide +kernel) ).trans ?_
  refine (X_iconst (m := 172) (pc := 25) (n := 1) (by decide +kernel) ).trans ?_
  refine (X_iand (m := 172) (pc := 26)  (by decide +kernel) ).trans ?_
  refine (X_iconst (m := 172) (pc := 27) (n := 1) (by decide +kernel) ).trans ?_
  refine (X_ic_ne (m := 172) (pc := 28) (off := 7) (tg := 35) (by decide +kernel) (by decide +kernel)).trans ?_
  refine ite_congr rfl (fun _ => ?_) (fun _ => ?_)
  · refine (X_iconst (m := 172) (pc := 35) (n := 0) (by decide +kernel) ).trans ?_
    exact X_ireturn (m := 172) (pc := 36) (f := 2) (by decide +kernel) (by decide +kernel) rfl
  · refine (X_iconst (m := 172) (pc := 31) (n := 1) (by decide +kernel) ).trans ?_
    refine (X_goto (m := 172) (pc := 32) (off := 4) (tg := 36) (by decide +kernel) (by decide +kernel)).trans ?_
    exact X_ireturn (m := 172) (pc := 36) (f := 2) (by decide +kernel) (by decide +kernel) rfl
theorem E_X11_isFree {σ : AS} {r0 : Nat} {x1 : Int} {x2 : Int} : a_m 173 [a_r (r0), a_i (x1), a_i (x2)] σ = a_X 173 0 [a_r (r0), a_i (x1), a_i (x2)] [] σ := a_m_eq (by rw [a_entry, show m_maxL 173 = 3 from by decide +kernel]; rfl)
theorem B_X11_isFree_0 {k : Nat → Nat × Nat} {u : Nat → Nat → Int} {g : Nat → Nat → Nat} {t : Nat × Nat × Nat} {r0 : Nat} {x1 : Int} {x2 : Int} : a_X 173 0 [a_r (r0), a_i (x1), a_i (x2)] [] (k, u, g, t) = if (k r0).1 = 11 then (a_m 165 [a_r (r0), a_i (x1), a_i (x2), a_i (0)] (k, u, g, t)).bind (a_back 173 4 3 [a_r (r0), a_i (x1), a_i (x2)] []) else none := by
  refine (X_aload_n (m := 173) (pc := 0) (n := 0) (by decide +kernel) rfl).trans ?_
  refine (X_iload_n (m := 173) (pc := 1) (n := 1) (by decide +kernel) rfl).trans ?_
  refine (X_iload_n (m := 173) (pc := 2) (n := 2) (by decide +kernel) rfl).trans ?_
  refine (X_iconst (m := 173) (pc := 3) (n := 0) (by decide +kernel) ).trans ?_
  refine (X_call_vi (m := 173) (pc := 4) (q := 82) (y := 165) (n := 4) (as := [a_r (r0), a_i (x1), a_i (x2), a_i (0)]) (rest := []) (by decide +kernel) (by decide +kernel) (by decide +kernel) (by decide +kernel) rfl rfl (Nat.le_of_ble_eq_true rfl) (Nat.le_of_ble_eq_true rfl) rfl (by rw [show m_maxL 165 = 4 from by decide +kernel]; exact Nat.le_of_ble_eq_true rfl)).trans ?_
  exact ite_congr (by simp [a_rcv, show m_recv 165 = 11 from by decide +kernel]) (fun _ => rfl) (fun _ => rfl)
theorem B_X11_isFree_7 {k : Nat → Nat × Nat} {u : Nat → Nat → Int} {g : Nat → Nat → Nat} {t : Nat × Nat × Nat} {r0 : Nat} {x1 : Int} {x2 : Int} {y0 : Int} : a_X 173 7 [a_r (r0), a_i (x1), a_i (x2)] [a_i (y0)] (k, u, g, t) = if (y0 : Int) ≠ (-1 : Int) then some (.inl (some (a_i (0))), (k, u, g, t)) else some (.inl (some (a_i (1))), (k, u, g, t)) := by
  refine (X_iconst (m := 173) (pc := 7) (n := -1) (by decide +kernel) ).trans ?_
  refine (X_ic_ne (m := 173) (pc := 8) (off := 7) (tg := 15) (by decide +kernel) (by decide +kernel)).trans ?_
  refine ite_congr rfl (fun _ => ?_) (fun _ => ?_)
  · refine (X_iconst (m := 173) (pc := 15) (n := 0) (by decide +kernel) ).trans ?_
    exact X_ireturn (m := 173) (pc := 16) (f := 2) (by decide +kernel) (by decide +kernel) rfl
  · refine (X_iconst (m := 173) (pc := 11) (n := 1) (by decide +kernel) ).trans ?_
    refine (X_goto (m := 173) (pc := 12) (off := 4) (tg := 16) (by decide +kernel) (by decide +kernel)).trans ?_
    exact X_ireturn (m := 173) (pc := 16) (f := 2) (by decide +kernel) (by decide +kernel) rfl
theorem E_X11_laysSlot {σ : AS} {r0 : Nat} {x1 : Int} {x2 : Int} : a_m 174 [a_r (r0), a_i (x1), a_i (x2)] σ = a_X 174 0 [a_r (r0), a_i (x1), a_i (x2), a_x false] [] σ := a_m_eq (by rw [a_entry, show m_maxL 174 = 4 from by decide +kernel]; rfl)
theorem B_X11_laysSlot_0 {k : Nat → Nat × Nat} {u : Nat → Nat → Int} {g : Nat → Nat → Nat} {t : Nat × Nat × Nat} {r0 : Nat} {x1 : Int} {x2 : Int} {v3 : AV} : a_X 174 0 [a_r (r0), a_i (x1), a_i (x2), v3] [] (k, u, g, t) = a_X 174 2 [a_r (r0), a_i (x1), a_i (x2), a_i (0)] [] (k, u, g, t) := by
  refine (X_iconst (m := 174) (pc := 0) (n := 0) (by decide +kernel) ).trans ?_
  refine (X_istore_n (m := 174) (pc := 1) (n := 3) (by decide +kernel) rfl (Nat.le_of_ble_eq_true rfl) rfl).trans ?_
  rfl
theorem B_X11_laysSlot_2 {k : Nat → Nat × Nat} {u : Nat → Nat → Int} {g : Nat → Nat → Nat} {t : Nat × Nat × Nat} {r0 : Nat} {x1 : Int} {x2 : Int} {x3 : Int} : a_X 174 2 [a_r (r0), a_i (x1), a_i (x2), a_i (x3)] [] (k, u, g, t) = if (x3 : Int) ≥ (5 : Int) then some (.inl none, (k, u, g, t)) else if (k r0).1 = 11 then if (k r0).1 = 11 then if ((k (g r0 2)).1 = 20 ∨ (k (g r0 2)).1 = 24) ∧ 0 ≤ (wr (x1 + x3) : Int) ∧ (wr (x1 + x3) : Int) < ((k (g r0 2)).2 : Int) then if (k (g r0 2)).1 = 20 ∧ 0 ≤ (wr (x2 + x3) : Int) ∧ (wr (x2 + x3) : Int) < ((k (g r0 2)).2 : Int) then a_X 174 2 [a_r (r0), a_i (x1), a_i (x2), a_i (wr (x3 + 1))] [] (k, (upm u (g r0 2) (wr (x2 + x3) : Int).toNat (u (g r0 2) (wr (x1 + x3) : Int).toNat)), g, t) else none else none else none else none := by
  refine (X_iload_n (m := 174) (pc := 2) (n := 3) (by decide +kernel) rfl).trans ?_
  refine (X_iconst (m := 174) (pc := 3) (n := 5) (by decide +kernel) ).trans ?_
  refine (X_ic_ge (m := 174) (pc := 4) (off := 25) (tg := 29) (by decide +kernel) (by decide +kernel)).trans ?_
  refine ite_congr rfl (fun _ => ?_) (fun _ => ?_)
  · exact X_return (m := 174) (pc := 29) (by decide +kernel) (by decide +kernel)
  · refine (X_aload_n (m := 174) (pc := 7) (n := 0) (by decide +kernel) rfl).trans ?_
    refine (X_getR (m := 174) (pc := 8) (n := 7) (c := 11) (q := 2) (fi := true) (by decide +kernel) (by decide +kernel)).trans ?_
    refine ite_congr rfl (fun _ => ?_) (fun _ => rfl)
    refine (X_iload_n (m := 174) (pc := 11) (n := 2) (by decide +kernel) rfl).trans ?_
    refine (X_iload_n (m := 174) (pc := 12) (n := 3) (by decide +kernel) rfl).trans ?_
    refine (X_iadd (m := 174) (pc := 13)  (by decide +kernel) ).trans ?_
    refine (X_aload_n (m := 174) (pc := 14) (n := 0) (by decide +kernel) rfl).trans ?_
    refine (X_getR (m := 174) (pc := 15) (n := 7) (c := 11) (q := 2) (fi := true) (by decide +kernel) (by decide +kernel)).trans ?_
    refine ite_congr rfl (fun _ => ?_) (fun _ => rfl)
    refine (X_iload_n (m := 174) (pc := 18) (n := 1) (by decide +kernel) rfl).trans ?_
    refine (X_iload_n (m := 174) (pc := 19) (n := 3) (by decide +kernel) rfl).trans ?_
    refine (X_iadd (m := 174) (pc := 20)  (by decide +kernel) ).trans ?_
    refine (X_iaload (m := 174) (pc := 21)  (by decide +kernel) ).trans ?_
    refine ite_congr rfl (fun _ => ?_) (fun _ => rfl)
    refine (X_iastore (m := 174) (pc := 22)  (by decide +kernel) ).trans ?_
    refine ite_congr rfl (fun _ => ?_) (fun _ => rfl)
    refine (X_iinc (m := 174) (pc := 23) (n := 3) (c := 1) (by decide +kernel) rfl rfl (Nat.le_of_ble_eq_true rfl) rfl).trans ?_
    refine (X_goto (m := 174) (pc := 26) (off := -24) (tg := 2) (by decide +kernel) (by decide +kernel)).trans ?_
    rfl
theorem E_X11_append {σ : AS} {r0 : Nat} {x1 : Int} {x2 : Int} {x3 : Int} {x4 : Int} {x5 : Int} : a_m 175 [a_r (r0), a_i (x1), a_i (x2), a_i (x3), a_i (x4), a_i (x5)] σ = a_X 175 0 [a_r (r0), a_i (x1), a_i (x2), a_i (x3), a_i (x4), a_i (x5), a_x false, a_x false] [] σ := a_m_eq (by rw [a_entry, show m_maxL 175 = 8 from by decide +kernel]; rfl)
theorem B_X11_append_0 {k : Nat → Nat × Nat} {u : Nat → Nat → Int} {g : Nat → Nat → Nat} {t : Nat × Nat × Nat} {r0 : Nat} {x1 : Int} {x2 : Int} {x3 : Int} {x4 : Int} {x5 : Int} {v6 : AV} {v7 : AV} : a_X 175 0 [a_r (r0), a_i (x1), a_i (x2), a_i (x3), a_i (x4), a_i (x5), v6, v7] [] (k, u, g, t) = if (k r0).1 = 11 then if (k r0).1 = 11 then if (wr (((upm u r0 0 0) r0 7) + 20) : Int) ≤ (500 : Int) then a_X 175 23 [a_r (r0), a_i (x1), a_i (x2), a_i (x3), a_i (x4), a_i (x5), a_i (0), v7] [] (k, (upm u r0 0 0), g, t) else some (.inl (some (a_i (-1))), (k, (upm u r0 0 0), g, t)) else none else none := by
  refine (X_aload_n (m := 175) (pc := 0) (n := 0) (by decide +kernel) rfl).trans ?_
  refine (X_iconst (m := 175) (pc := 1) (n := 0) (by decide +kernel) ).trans ?_
  refine (X_putI (m := 175) (pc := 2) (n := 46) (c := 11) (q := 0) (fi := false) (by decide +kernel) (by decide +kernel) (fun h => by cases h) (by decide +kernel)).trans ?_
  refine ite_congr rfl (fun _ => ?_) (fun _ => rfl)
  refine (X_aload_n (m := 175) (pc := 5) (n := 0) (by decide +kernel) rfl).trans ?_
  refine (X_getI (m := 175) (pc := 6) (n := 86) (c := 11) (q := 7) (ty := 1) (fi := false) (by decide +kernel) (by decide +kernel) (by decide +kernel)).trans ?_
  refine ite_congr rfl (fun _ => ?_) (fun _ => rfl)
  refine (X_bipush (m := 175) (pc := 9) (n := 20) (by decide +kernel) ).trans ?_
  refine (X_iadd (m := 175) (pc := 11)  (by decide +kernel) ).trans ?_
  refine (X_sipush (m := 175) (pc := 12) (n := 500) (by decide +kernel) ).trans ?_
  refine (X_ic_le (m := 175) (pc := 15) (off := 5) (tg := 20) (by decide +kernel) (by decide +kernel)).trans ?_
  refine ite_congr rfl (fun _ => ?_) (fun _ => ?_)
  · refine (X_iconst (m := 175) (pc := 20) (n := 0) (by decide +kernel) ).trans ?_
    refine (X_istore (m := 175) (pc := 21) (n := 6) (by decide +kernel) rfl (Nat.le_of_ble_eq_true rfl) rfl).trans ?_
    rfl
  · refine (X_iconst (m := 175) (pc := 18) (n := -1) (by decide +kernel) ).trans ?_
    exact X_ireturn (m := 175) (pc := 19) (f := 1) (by decide +kernel) (by decide +kernel) rfl
theorem B_X11_append_23 {k : Nat → Nat × Nat} {u : Nat → Nat → Int} {g : Nat → Nat → Nat} {t : Nat × Nat × Nat} {r0 : Nat} {x1 : Int} {x2 : Int} {x3 : Int} {x4 : Int} {x5 : Int} {x6 : Int} {v7 : AV} : a_X 175 23 [a_r (r0), a_i (x1), a_i (x2), a_i (x3), a_i (x4), a_i (x5), a_i (x6), v7] [] (k, u, g, t) = if (x6 : Int) ≥ (20 : Int) then if (k r0).1 = 11 then if (k r0).1 = 11 then if (k r0).1 = 11 then some (.inl (some (a_i ((upm u r0 7 (wr ((u r0 7) + 20))) r0 7))), (k, (upm u r0 7 (wr ((u r0 7) + 20))), g, t)) else none else none else none else if (x6 : Int) ≥ (4 : Int) then if (x6 : Int) ≥ (8 : Int) then if (x6 : Int) ≥ (12 : Int) then if (x6 : Int) ≥ (16 : Int) then if (k r0).1 = 11 then if (k r0).1 = 11 then if (4 : Int) ≠ 0 then if (k (g r0 6)).1 = 20 ∧ 0 ≤ (wr ((u r0 7) + x6) : Int) ∧ (wr ((u r0 7) + x6) : Int) < ((k (g r0 6)).2 : Int) then a_X 175 23 [a_r (r0), a_i (x1), a_i (x2), a_i (x3), a_i (x4), a_i (x5), a_i (wr (x6 + 1)), a_i (x5)] [] (k, (upm u (g r0 6) (wr ((u r0 7) + x6) : Int).toNat (zand (zshr (x5) (wr (24 - (wr (8 * (Int.tmod (x6) (4))))))) (255))), g, t) else none else none else none else none else if (k r0).1 = 11 then if (k r0).1 = 11 then if (4 : Int) ≠ 0 then a_X 175 99 [a_r (r0), a_i (x1), a_i (x2), a_i (x3), a_i (x4), a_i (x5), a_i (x6), a_i (x4)] [a_i (Int.tmod (x6) (4)), a_i (8), a_i (24), a_i (x4), a_i (wr ((u r0 7) + x6)), a_r (g r0 6)] (k, u, g, t) else none else none else none else a_X 175 58 [a_r (r0), a_i (x1), a_i (x2), a_i (x3), a_i (x4), a_i (x5), a_i (x6), v7] [] (k, u, g, t) else a_X 175 47 [a_r (r0), a_i (x1), a_i (x2), a_i (x3), a_i (x4), a_i (x5), a_i (x6), v7] [] (k, u, g, t) else a_X 175 36 [a_r (r0), a_i (x1), a_i (x2), a_i (x3), a_i (x4), a_i (x5), a_i (x6), v7] [] (k, u, g, t) := by
  refine (X_iload (m := 175) (pc := 23) (n := 6) (by decide +kernel) rfl).trans ?_
  refine (X_bipush (m := 175) (pc := 25) (n := 20) (by decide +kernel) ).trans ?_
  refine (X_ic_ge (m := 175) (pc := 27) (off := 86) (tg := 113) (by decide +kernel) (by decide +kernel)).trans ?_
  refine ite_congr rfl (fun _ => ?_) (fun _ => ?_)
  · refine (X_aload_n (m := 175) (pc := 113) (n := 0) (by decide +kernel) rfl).trans ?_
    refine (X_dup (m := 175) (pc := 114)  (by decide +kernel) rfl rfl).trans ?_
    refine (X_getI (m := 175) (pc := 115) (n := 86) (c := 11) (q := 7) (ty := 1) (fi := false) (by decide +kernel) (by decide +kernel) (by decide +kernel)).trans ?_
    refine ite_congr rfl (fun _ => ?_) (fun _ => rfl)
    refine (X_bipush (m := 175) (pc := 118) (n := 20) (by decide +kernel) ).trans ?_
    refine (X_iadd (m := 175) (pc := 120)  (by decide +kernel) ).trans ?_
    refine (X_putI (m := 175) (pc := 121) (n := 86) (c := 11) (q := 7) (fi := false) (by decide +kernel) (by decide +kernel) (fun h => by cases h) (by decide +kernel)).trans ?_
    refine ite_congr rfl (fun _ => ?_) (fun _ => rfl)
    refine (X_aload_n (m := 175) (pc := 124) (n := 0) (by decide +kernel) rfl).trans ?_
    refine (X_getI (m := 175) (pc := 125) (n := 86) (c := 11) (q := 7) (ty := 1) (fi := false) (by decide +kernel) (by decide +kernel) (by decide +kernel)).trans ?_
    refine ite_congr rfl (fun _ => ?_) (fun _ => rfl)
    exact X_ireturn (m := 175) (pc := 128) (f := 1) (by decide +kernel) (by decide +kernel) rfl
  · refine (X_iload (m := 175) (pc := 30) (n := 6) (by decide +kernel) rfl).trans ?_
    refine (X_iconst (m := 175) (pc := 32) (n := 4) (by decide +kernel) ).trans ?_
    refine (X_ic_ge (m := 175) (pc := 33) (off := 7) (tg := 40) (by decide +kernel) (by decide +kernel)).trans ?_
    refine ite_congr rfl (fun _ => ?_) (fun _ => ?_)
    · refine (X_iload (m := 175) (pc := 40) (n := 6) (by decide +kernel) rfl).trans ?_
      refine (X_bipush (m := 175) (pc := 42) (n := 8) (by decide +kernel) ).trans ?_
      refine (X_ic_ge (m := 175) (pc := 44) (off := 7) (tg := 51) (by decide +kernel) (by decide +kernel)).trans ?_
      refine ite_congr rfl (fun _ => ?_) (fun _ => ?_)
      · refine (X_iload (m := 175) (pc := 51) (n := 6) (by decide +kernel) rfl).trans ?_
        refine (X_bipush (m := 175) (pc := 53) (n := 12) (by decide +kernel) ).trans ?_
        refine (X_ic_ge (m := 175) (pc := 55) (off := 7) (tg := 62) (by decide +kernel) (by decide +kernel)).trans ?_
        refine ite_congr rfl (fun _ => ?_) (fun _ => ?_)
        · refine (X_iload (m := 175) (pc := 62) (n := 6) (by decide +kernel) rfl).trans ?_
          refine (X_bipush (m := 175) (pc := 64) (n := 16) (by decide +kernel) ).trans ?_
          refine (X_ic_ge (m := 175) (pc := 66) (off := 8) (tg := 74) (by decide +kernel) (by decide +kernel)).trans ?_
          refine ite_congr rfl (fun _ => ?_) (fun _ => ?_)
          · refine (X_iload (m := 175) (pc := 74) (n := 5) (by decide +kernel) rfl).trans ?_
            refine (X_istore (m := 175) (pc := 76) (n := 7) (by decide +kernel) rfl (Nat.le_of_ble_eq_true rfl) rfl).trans ?_
            refine (X_aload_n (m := 175) (pc := 78) (n := 0) (by decide +kernel) rfl).trans ?_
            refine (X_getR (m := 175) (pc := 79) (n := 21) (c := 11) (q := 6) (fi := true) (by decide +kernel) (by decide +kernel)).trans ?_
            refine ite_congr rfl (fun _ => ?_) (fun _ => rfl)
            refine (X_aload_n (m := 175) (pc := 82) (n := 0) (by decide +kernel) rfl).trans ?_
            refine (X_getI (m := 175) (pc := 83) (n := 86) (c := 11) (q := 7) (ty := 1) (fi := false) (by decide +kernel) (by decide +kernel) (by decide +kernel)).trans ?_
            refine ite_congr rfl (fun _ => ?_) (fun _ => rfl)
            refine (X_iload (m := 175) (pc := 86) (n := 6) (by decide +kernel) rfl).trans ?_
            refine (X_iadd (m := 175) (pc := 88)  (by decide +kernel) ).trans ?_
            refine (X_iload (m := 175) (pc := 89) (n := 7) (by decide +kernel) rfl).trans ?_
            refine (X_bipush (m := 175) (pc := 91) (n := 24) (by decide +kernel) ).trans ?_
            refine (X_bipush (m := 175) (pc := 93) (n := 8) (by decide +kernel) ).trans ?_
            refine (X_iload (m := 175) (pc := 95) (n := 6) (by decide +kernel) rfl).trans ?_
            refine (X_iconst (m := 175) (pc := 97) (n := 4) (by decide +kernel) ).trans ?_
            refine (X_irem (m := 175) (pc := 98)  (by decide +kernel) ).trans ?_
            refine ite_congr rfl (fun _ => ?_) (fun _ => rfl)
            refine (X_imul (m := 175) (pc := 99)  (by decide +kernel) ).trans ?_
            refine (X_isub (m := 175) (pc := 100)  (by decide +kernel) ).trans ?_
            refine (X_ishr (m := 175) (pc := 101)  (by decide +kernel) ).trans ?_
            refine (X_sipush (m := 175) (pc := 102) (n := 255) (by decide +kernel) ).trans ?_
            refine (X_iand (m := 175) (pc := 105)  (by decide +kernel) ).trans ?_
            refine (X_iastore (m := 175) (pc := 106)  (by decide +kernel) ).trans ?_
            refine ite_congr rfl (fun _ => ?_) (fun _ => rfl)
            refine (X_iinc (m := 175) (pc := 107) (n := 6) (c := 1) (by decide +kernel) rfl rfl (Nat.le_of_ble_eq_true rfl) rfl).trans ?_
            refine (X_goto (m := 175) (pc := 110) (off := -87) (tg := 23) (by decide +kernel) (by decide +kernel)).trans ?_
            rfl
          · refine (X_iload (m := 175) (pc := 69) (n := 4) (by decide +kernel) rfl).trans ?_
            refine (X_goto (m := 175) (pc := 71) (off := 5) (tg := 76) (by decide +kernel) (by decide +kernel)).trans ?_
            refine (X_istore (m := 175) (pc := 76) (n := 7) (by decide +kernel) rfl (Nat.le_of_ble_eq_true rfl) rfl).trans ?_
            refine (X_aload_n (m := 175) (pc := 78) (n := 0) (by decide +kernel) rfl).trans ?_
            refine (X_getR (m := 175) (pc := 79) (n := 21) (c := 11) (q := 6) (fi := true) (by decide +kernel) (by decide +kernel)).trans ?_
            refine ite_congr rfl (fun _ => ?_) (fun _ => rfl)
            refine (X_aload_n (m := 175) (pc := 82) (n := 0) (by decide +kernel) rfl).trans ?_
            refine (X_getI (m := 175) (pc := 83) (n := 86) (c := 11) (q := 7) (ty := 1) (fi := false) (by decide +kernel) (by decide +kernel) (by decide +kernel)).trans ?_
            refine ite_congr rfl (fun _ => ?_) (fun _ => rfl)
            refine (X_iload (m := 175) (pc := 86) (n := 6) (by decide +kernel) rfl).trans ?_
            refine (X_iadd (m := 175) (pc := 88)  (by decide +kernel) ).trans ?_
            refine (X_iload (m := 175) (pc := 89) (n := 7) (by decide +kernel) rfl).trans ?_
            refine (X_bipush (m := 175) (pc := 91) (n := 24) (by decide +kernel) ).trans ?_
            refine (X_bipush (m := 175) (pc := 93) (n := 8) (by decide +kernel) ).trans ?_
            refine (X_iload (m := 175) (pc := 95) (n := 6) (by decide +kernel) rfl).trans ?_
            refine (X_iconst (m := 175) (pc := 97) (n := 4) (by decide +kernel) ).trans ?_
            refine (X_irem (m := 175) (pc := 98)  (by decide +kernel) ).trans ?_
            refine ite_congr rfl (fun _ => ?_) (fun _ => rfl)
            rfl
        · rfl
      · rfl
    · rfl
theorem B_X11_append_99 {k : Nat → Nat × Nat} {u : Nat → Nat → Int} {g : Nat → Nat → Nat} {t : Nat × Nat × Nat} {r0 : Nat} {x1 : Int} {x2 : Int} {x3 : Int} {x4 : Int} {x5 : Int} {x6 : Int} {x7 : Int} {q0 : Nat} {y1 : Int} {y2 : Int} {y3 : Int} {y4 : Int} {y5 : Int} : a_X 175 99 [a_r (r0), a_i (x1), a_i (x2), a_i (x3), a_i (x4), a_i (x5), a_i (x6), a_i (x7)] [a_i (y5), a_i (y4), a_i (y3), a_i (y2), a_i (y1), a_r (q0)] (k, u, g, t) = if (k q0).1 = 20 ∧ 0 ≤ (y1 : Int) ∧ (y1 : Int) < ((k q0).2 : Int) then a_X 175 23 [a_r (r0), a_i (x1), a_i (x2), a_i (x3), a_i (x4), a_i (x5), a_i (wr (x6 + 1)), a_i (x7)] [] (k, (upm u q0 (y1 : Int).toNat (zand (zshr (y2) (wr (y3 - (wr (y4 * y5))))) (255))), g, t) else none := by
  refine (X_imul (m := 175) (pc := 99)  (by decide +kernel) ).trans ?_
  refine (X_isub (m := 175) (pc := 100)  (by decide +kernel) ).trans ?_
  refine (X_ishr (m := 175) (pc := 101)  (by decide +kernel) ).trans ?_
  refine (X_sipush (m := 175) (pc := 102) (n := 255) (by decide +kernel) ).trans ?_
  refine (X_iand (m := 175) (pc := 105)  (by decide +kernel) ).trans ?_
  refine (X_iastore (m := 175) (pc := 106)  (by decide +kernel) ).trans ?_
  refine ite_congr rfl (fun _ => ?_) (fun _ => rfl)
  refine (X_iinc (m := 175) (pc := 107) (n := 6) (c := 1) (by decide +kernel) rfl rfl (Nat.le_of_ble_eq_true rfl) rfl).trans ?_
  refine (X_goto (m := 175) (pc := 110) (off := -87) (tg := 23) (by decide +kernel) (by decide +kernel)).trans ?_
  rfl
theorem B_X11_append_58 {k : Nat → Nat × Nat} {u : Nat → Nat → Int} {g : Nat → Nat → Nat} {t : Nat × Nat × Nat} {r0 : Nat} {x1 : Int} {x2 : Int} {x3 : Int} {x4 : Int} {x5 : Int} {x6 : Int} {v7 : AV} : a_X 175 58 [a_r (r0), a_i (x1), a_i (x2), a_i (x3), a_i (x4), a_i (x5), a_i (x6), v7] [] (k, u, g, t) = if (k r0).1 = 11 then if (k r0).1 = 11 then if (4 : Int) ≠ 0 then if (k (g r0 6)).1 = 20 ∧ 0 ≤ (wr ((u r0 7) + x6) : Int) ∧ (wr ((u r0 7) + x6) : Int) < ((k (g r0 6)).2 : Int) then a_X 175 23 [a_r (r0), a_i (x1), a_i (x2), a_i (x3), a_i (x4), a_i (x5), a_i (wr (x6 + 1)), a_i (x3)] [] (k, (upm u (g r0 6) (wr ((u r0 7) + x6) : Int).toNat (zand (zshr (x3) (wr (24 - (wr (8 * (Int.tmod (x6) (4))))))) (255))), g, t) else none else none else none else none := by
  refine (X_iload_n (m := 175) (pc := 58) (n := 3) (by decide +kernel) rfl).trans ?_
  refine (X_goto (m := 175) (pc := 59) (off := 17) (tg := 76) (by decide +kernel) (by decide +kernel)).trans ?_
  refine (X_istore (m := 175) (pc := 76) (n := 7) (by decide +kernel) rfl (Nat.le_of_ble_eq_true rfl) rfl).trans ?_
  refine (X_aload_n (m := 175) (pc := 78) (n := 0) (by decide +kernel) rfl).trans ?_
  refine (X_getR (m := 175) (pc := 79) (n := 21) (c := 11) (q := 6) (fi := true) (by decide +kernel) (by decide +kernel)).trans ?_
  refine ite_congr rfl (fun _ => ?_) (fun _ => rfl)
  refine (X_aload_n (m := 175) (pc := 82) (n := 0) (by decide +kernel) rfl).trans ?_
  refine (X_getI (m := 175) (pc := 83) (n := 86) (c := 11) (q := 7) (ty := 1) (fi := false) (by decide +kernel) (by decide +kernel) (by decide +kernel)).trans ?_
  refine ite_congr rfl (fun _ => ?_) (fun _ => rfl)
  refine (X_iload (m := 175) (pc := 86) (n := 6) (by decide +kernel) rfl).trans ?_
  refine (X_iadd (m := 175) (pc := 88)  (by decide +kernel) ).trans ?_
  refine (X_iload (m := 175) (pc := 89) (n := 7) (by decide +kernel) rfl).trans ?_
  refine (X_bipush (m := 175) (pc := 91) (n := 24) (by decide +kernel) ).trans ?_
  refine (X_bipush (m := 175) (pc := 93) (n := 8) (by decide +kernel) ).trans ?_
  refine (X_iload (m := 175) (pc := 95) (n := 6) (by decide +kernel) rfl).trans ?_
  refine (X_iconst (m := 175) (pc := 97) (n := 4) (by decide +kernel) ).trans ?_
  refine (X_irem (m := 175) (pc := 98)  (by decide +kernel) ).trans ?_
  refine ite_congr rfl (fun _ => ?_) (fun _ => rfl)
  refine (X_imul (m := 175) (pc := 99)  (by decide +kernel) ).trans ?_
  refine (X_isub (m := 175) (pc := 100)  (by decide +kernel) ).trans ?_
  refine (X_ishr (m := 175) (pc := 101)  (by decide +kernel) ).trans ?_
  refine (X_sipush (m := 175) (pc := 102) (n := 255) (by decide +kernel) ).trans ?_
  refine (X_iand (m := 175) (pc := 105)  (by decide +kernel) ).trans ?_
  refine (X_iastore (m := 175) (pc := 106)  (by decide +kernel) ).trans ?_
  refine ite_congr rfl (fun _ => ?_) (fun _ => rfl)
  refine (X_iinc (m := 175) (pc := 107) (n := 6) (c := 1) (by decide +kernel) rfl rfl (Nat.le_of_ble_eq_true rfl) rfl).trans ?_
  refine (X_goto (m := 175) (pc := 110) (off := -87) (tg := 23) (by decide +kernel) (by decide +kernel)).trans ?_
  rfl
theorem B_X11_append_47 {k : Nat → Nat × Nat} {u : Nat → Nat → Int} {g : Nat → Nat → Nat} {t : Nat × Nat × Nat} {r0 : Nat} {x1 : Int} {x2 : Int} {x3 : Int} {x4 : Int} {x5 : Int} {x6 : Int} {v7 : AV} : a_X 175 47 [a_r (r0), a_i (x1), a_i (x2), a_i (x3), a_i (x4), a_i (x5), a_i (x6), v7] [] (k, u, g, t) = if (k r0).1 = 11 then if (k r0).1 = 11 then if (4 : Int) ≠ 0 then if (k (g r0 6)).1 = 20 ∧ 0 ≤ (wr ((u r0 7) + x6) : Int) ∧ (wr ((u r0 7) + x6) : Int) < ((k (g r0 6)).2 : Int) then a_X 175 23 [a_r (r0), a_i (x1), a_i (x2), a_i (x3), a_i (x4), a_i (x5), a_i (wr (x6 + 1)), a_i (x2)] [] (k, (upm u (g r0 6) (wr ((u r0 7) + x6) : Int).toNat (zand (zshr (x2) (wr (24 - (wr (8 * (Int.tmod (x6) (4))))))) (255))), g, t) else none else none else none else none := by
  refine (X_iload_n (m := 175) (pc := 47) (n := 2) (by decide +kernel) rfl).trans ?_
  refine (X_goto (m := 175) (pc := 48) (off := 28) (tg := 76) (by decide +kernel) (by decide +kernel)).trans ?_
  refine (X_istore (m := 175) (pc := 76) (n := 7) (by decide +kernel) rfl (Nat.le_of_ble_eq_true rfl) rfl).trans ?_
  refine (X_aload_n (m := 175) (pc := 78) (n := 0) (by decide +kernel) rfl).trans ?_
  refine (X_getR (m := 175) (pc := 79) (n := 21) (c := 11) (q := 6) (fi := true) (by decide +kernel) (by decide +kernel)).trans ?_
  refine ite_congr rfl (fun _ => ?_) (fun _ => rfl)
  refine (X_aload_n (m := 175) (pc := 82) (n := 0) (by decide +kernel) rfl).trans ?_
  refine (X_getI (m := 175) (pc := 83) (n := 86) (c := 11) (q := 7) (ty := 1) (fi := false) (by decide +kernel) (by decide +kernel) (by decide +kernel)).trans ?_
  refine ite_congr rfl (fun _ => ?_) (fun _ => rfl)
  refine (X_iload (m := 175) (pc := 86) (n := 6) (by decide +kernel) rfl).trans ?_
  refine (X_iadd (m := 175) (pc := 88)  (by decide +kernel) ).trans ?_
  refine (X_iload (m := 175) (pc := 89) (n := 7) (by decide +kernel) rfl).trans ?_
  refine (X_bipush (m := 175) (pc := 91) (n := 24) (by decide +kernel) ).trans ?_
  refine (X_bipush (m := 175) (pc := 93) (n := 8) (by decide +kernel) ).trans ?_
  refine (X_iload (m := 175) (pc := 95) (n := 6) (by decide +kernel) rfl).trans ?_
  refine (X_iconst (m := 175) (pc := 97) (n := 4) (by decide +kernel) ).trans ?_
  refine (X_irem (m := 175) (pc := 98)  (by decide +kernel) ).trans ?_
  refine ite_congr rfl (fun _ => ?_) (fun _ => rfl)
  refine (X_imul (m := 175) (pc := 99)  (by decide +kernel) ).trans ?_
  refine (X_isub (m := 175) (pc := 100)  (by decide +kernel) ).trans ?_
  refine (X_ishr (m := 175) (pc := 101)  (by decide +kernel) ).trans ?_
  refine (X_sipush (m := 175) (pc := 102) (n := 255) (by decide +kernel) ).trans ?_
  refine (X_iand (m := 175) (pc := 105)  (by decide +kernel) ).trans ?_
  refine (X_iastore (m := 175) (pc := 106)  (by decide +kernel) ).trans ?_
  refine ite_congr rfl (fun _ => ?_) (fun _ => rfl)
  refine (X_iinc (m := 175) (pc := 107) (n := 6) (c := 1) (by decide +kernel) rfl rfl (Nat.le_of_ble_eq_true rfl) rfl).trans ?_
  refine (X_goto (m := 175) (pc := 110) (off := -87) (tg := 23) (by decide +kernel) (by decide +kernel)).trans ?_
  rfl
theorem B_X11_append_36 {k : Nat → Nat × Nat} {u : Nat → Nat → Int} {g : Nat → Nat → Nat} {t : Nat × Nat × Nat} {r0 : Nat} {x1 : Int} {x2 : Int} {x3 : Int} {x4 : Int} {x5 : Int} {x6 : Int} {v7 : AV} : a_X 175 36 [a_r (r0), a_i (x1), a_i (x2), a_i (x3), a_i (x4), a_i (x5), a_i (x6), v7] [] (k, u, g, t) = if (k r0).1 = 11 then if (k r0).1 = 11 then if (4 : Int) ≠ 0 then if (k (g r0 6)).1 = 20 ∧ 0 ≤ (wr ((u r0 7) + x6) : Int) ∧ (wr ((u r0 7) + x6) : Int) < ((k (g r0 6)).2 : Int) then a_X 175 23 [a_r (r0), a_i (x1), a_i (x2), a_i (x3), a_i (x4), a_i (x5), a_i (wr (x6 + 1)), a_i (x1)] [] (k, (upm u (g r0 6) (wr ((u r0 7) + x6) : Int).toNat (zand (zshr (x1) (wr (24 - (wr (8 * (Int.tmod (x6) (4))))))) (255))), g, t) else none else none else none else none := by
  refine (X_iload_n (m := 175) (pc := 36) (n := 1) (by decide +kernel) rfl).trans ?_
  refine (X_goto (m := 175) (pc := 37) (off := 39) (tg := 76) (by decide +kernel) (by decide +kernel)).trans ?_
  refine (X_istore (m := 175) (pc := 76) (n := 7) (by decide +kernel) rfl (Nat.le_of_ble_eq_true rfl) rfl).trans ?_
  refine (X_aload_n (m := 175) (pc := 78) (n := 0) (by decide +kernel) rfl).trans ?_
  refine (X_getR (m := 175) (pc := 79) (n := 21) (c := 11) (q := 6) (fi := true) (by decide +kernel) (by decide +kernel)).trans ?_
  refine ite_congr rfl (fun _ => ?_) (fun _ => rfl)
  refine (X_aload_n (m := 175) (pc := 82) (n := 0) (by decide +kernel) rfl).trans ?_
  refine (X_getI (m := 175) (pc := 83) (n := 86) (c := 11) (q := 7) (ty := 1) (fi := false) (by decide +kernel) (by decide +kernel) (by decide +kernel)).trans ?_
  refine ite_congr rfl (fun _ => ?_) (fun _ => rfl)
  refine (X_iload (m := 175) (pc := 86) (n := 6) (by decide +kernel) rfl).trans ?_
  refine (X_iadd (m := 175) (pc := 88)  (by decide +kernel) ).trans ?_
  refine (X_iload (m := 175) (pc := 89) (n := 7) (by decide +kernel) rfl).trans ?_
  refine (X_bipush (m := 175) (pc := 91) (n := 24) (by decide +kernel) ).trans ?_
  refine (X_bipush (m := 175) (pc := 93) (n := 8) (by decide +kernel) ).trans ?_
  refine (X_iload (m := 175) (pc := 95) (n := 6) (by decide +kernel) rfl).trans ?_
  refine (X_iconst (m := 175) (pc := 97) (n := 4) (by decide +kernel) ).trans ?_
  refine (X_irem (m := 175) (pc := 98)  (by decide +kernel) ).trans ?_
  refine ite_congr rfl (fun _ => ?_) (fun _ => rfl)
  refine (X_imul (m := 175) (pc := 99)  (by decide +kernel) ).trans ?_
  refine (X_isub (m := 175) (pc := 100)  (by decide +kernel) ).trans ?_
  refine (X_ishr (m := 175) (pc := 101)  (by decide +kernel) ).trans ?_
  refine (X_sipush (m := 175) (pc := 102) (n := 255) (by decide +kernel) ).trans ?_
  refine (X_iand (m := 175) (pc := 105)  (by decide +kernel) ).trans ?_
  refine (X_iastore (m := 175) (pc := 106)  (by decide +kernel) ).trans ?_
  refine ite_congr rfl (fun _ => ?_) (fun _ => rfl)
  refine (X_iinc (m := 175) (pc := 107) (n := 6) (c := 1) (by decide +kernel) rfl rfl (Nat.le_of_ble_eq_true rfl) rfl).trans ?_
  refine (X_goto (m := 175) (pc := 110) (off := -87) (tg := 23) (by decide +kernel) (by decide +kernel)).trans ?_
  rfl
theorem E_X11_buffered {σ : AS} {r0 : Nat} : a_m 176 [a_r (r0)] σ = a_X 176 0 [a_r (r0)] [] σ := a_m_eq (by rw [a_entry, show m_maxL 176 = 1 from by decide +kernel]; rfl)
theorem B_X11_buffered_0 {k : Nat → Nat × Nat} {u : Nat → Nat → Int} {g : Nat → Nat → Nat} {t : Nat × Nat × Nat} {r0 : Nat} : a_X 176 0 [a_r (r0)] [] (k, u, g, t) = if (k r0).1 = 11 then if (k r0).1 = 11 then some (.inl (some (a_i ((upm u r0 0 0) r0 7))), (k, (upm u r0 0 0), g, t)) else none else none := by
  refine (X_aload_n (m := 176) (pc := 0) (n := 0) (by decide +kernel) rfl).trans ?_
  refine (X_iconst (m := 176) (pc := 1) (n := 0) (by decide +kernel) ).trans ?_
  refine (X_putI (m := 176) (pc := 2) (n := 46) (c := 11) (q := 0) (fi := false) (by decide +kernel) (by decide +kernel) (fun h => by cases h) (by decide +kernel)).trans ?_
  refine ite_congr rfl (fun _ => ?_) (fun _ => rfl)
  refine (X_aload_n (m := 176) (pc := 5) (n := 0) (by decide +kernel) rfl).trans ?_
  refine (X_getI (m := 176) (pc := 6) (n := 86) (c := 11) (q := 7) (ty := 1) (fi := false) (by decide +kernel) (by decide +kernel) (by decide +kernel)).trans ?_
  refine ite_congr rfl (fun _ => ?_) (fun _ => rfl)
  exact X_ireturn (m := 176) (pc := 9) (f := 1) (by decide +kernel) (by decide +kernel) rfl
theorem E_X11_parseError {σ : AS} {r0 : Nat} : a_m 177 [a_r (r0)] σ = a_X 177 0 [a_r (r0)] [] σ := a_m_eq (by rw [a_entry, show m_maxL 177 = 1 from by decide +kernel]; rfl)
theorem B_X11_parseError_0 {k : Nat → Nat × Nat} {u : Nat → Nat → Int} {g : Nat → Nat → Nat} {t : Nat × Nat × Nat} {r0 : Nat} : a_X 177 0 [a_r (r0)] [] (k, u, g, t) = if (k r0).1 = 11 then if (k r0).1 = 11 then some (.inl (some (a_i ((upm u r0 0 0) r0 8))), (k, (upm u r0 0 0), g, t)) else none else none := by
  refine (X_aload_n (m := 177) (pc := 0) (n := 0) (by decide +kernel) rfl).trans ?_
  refine (X_iconst (m := 177) (pc := 1) (n := 0) (by decide +kernel) ).trans ?_
  refine (X_putI (m := 177) (pc := 2) (n := 46) (c := 11) (q := 0) (fi := false) (by decide +kernel) (by decide +kernel) (fun h => by cases h) (by decide +kernel)).trans ?_
  refine ite_congr rfl (fun _ => ?_) (fun _ => rfl)
  refine (X_aload_n (m := 177) (pc := 5) (n := 0) (by decide +kernel) rfl).trans ?_
  refine (X_getI (m := 177) (pc := 6) (n := 89) (c := 11) (q := 8) (ty := 1) (fi := false) (by decide +kernel) (by decide +kernel) (by decide +kernel)).trans ?_
  refine ite_congr rfl (fun _ => ?_) (fun _ => rfl)
  exact X_ireturn (m := 177) (pc := 9) (f := 1) (by decide +kernel) (by decide +kernel) rfl
theorem E_X11_errorPosition {σ : AS} {r0 : Nat} : a_m 178 [a_r (r0)] σ = a_X 178 0 [a_r (r0)] [] σ := a_m_eq (by rw [a_entry, show m_maxL 178 = 1 from by decide +kernel]; rfl)
theorem B_X11_errorPosition_0 {k : Nat → Nat × Nat} {u : Nat → Nat → Int} {g : Nat → Nat → Nat} {t : Nat × Nat × Nat} {r0 : Nat} : a_X 178 0 [a_r (r0)] [] (k, u, g, t) = if (k r0).1 = 11 then if (k r0).1 = 11 then some (.inl (some (a_i ((upm u r0 0 0) r0 9))), (k, (upm u r0 0 0), g, t)) else none else none := by
  refine (X_aload_n (m := 178) (pc := 0) (n := 0) (by decide +kernel) rfl).trans ?_
  refine (X_iconst (m := 178) (pc := 1) (n := 0) (by decide +kernel) ).trans ?_
  refine (X_putI (m := 178) (pc := 2) (n := 46) (c := 11) (q := 0) (fi := false) (by decide +kernel) (by decide +kernel) (fun h => by cases h) (by decide +kernel)).trans ?_
  refine ite_congr rfl (fun _ => ?_) (fun _ => rfl)
  refine (X_aload_n (m := 178) (pc := 5) (n := 0) (by decide +kernel) rfl).trans ?_
  refine (X_getI (m := 178) (pc := 6) (n := 24) (c := 11) (q := 9) (ty := 1) (fi := false) (by decide +kernel) (by decide +kernel) (by decide +kernel)).trans ?_
  refine ite_congr rfl (fun _ => ?_) (fun _ => rfl)
  exact X_ireturn (m := 178) (pc := 9) (f := 1) (by decide +kernel) (by decide +kernel) rfl
theorem E_X11_seen {σ : AS} {r0 : Nat} {x1 : Int} : a_m 179 [a_r (r0), a_i (x1)] σ = a_X 179 0 [a_r (r0), a_i (x1)] [] σ := a_m_eq (by rw [a_entry, show m_maxL 179 = 2 from by decide +kernel]; rfl)
theorem B_X11_seen_0 {k : Nat → Nat × Nat} {u : Nat → Nat → Int} {g : Nat → Nat → Nat} {t : Nat × Nat × Nat} {r0 : Nat} {x1 : Int} : a_X 179 0 [a_r (r0), a_i (x1)] [] (k, u, g, t) = if (k r0).1 = 11 then if (x1 : Int) ≥ (u r0 10 : Int) then some (.inl (some (a_i (-1))), (k, u, g, t)) else if (k r0).1 = 11 then if ((k (g r0 6)).1 = 20 ∨ (k (g r0 6)).1 = 24) ∧ 0 ≤ (x1 : Int) ∧ (x1 : Int) < ((k (g r0 6)).2 : Int) then some (.inl (some (a_i (u (g r0 6) (x1 : Int).toNat))), (k, u, g, t)) else none else none else none := by
  refine (X_iload_n (m := 179) (pc := 0) (n := 1) (by decide +kernel) rfl).trans ?_
  refine (X_aload_n (m := 179) (pc := 1) (n := 0) (by decide +kernel) rfl).trans ?_
  refine (X_getI (m := 179) (pc := 2) (n := 92) (c := 11) (q := 10) (ty := 1) (fi := false) (by decide +kernel) (by decide +kernel) (by decide +kernel)).trans ?_
  refine ite_congr rfl (fun _ => ?_) (fun _ => rfl)
  refine (X_ic_ge (m := 179) (pc := 5) (off := 12) (tg := 17) (by decide +kernel) (by decide +kernel)).trans ?_
  refine ite_congr rfl (fun _ => ?_) (fun _ => ?_)
  · refine (X_iconst (m := 179) (pc := 17) (n := -1) (by decide +kernel) ).trans ?_
    exact X_ireturn (m := 179) (pc := 18) (f := 1) (by decide +kernel) (by decide +kernel) rfl
  · refine (X_aload_n (m := 179) (pc := 8) (n := 0) (by decide +kernel) rfl).trans ?_
    refine (X_getR (m := 179) (pc := 9) (n := 21) (c := 11) (q := 6) (fi := true) (by decide +kernel) (by decide +kernel)).trans ?_
    refine ite_congr rfl (fun _ => ?_) (fun _ => rfl)
    refine (X_iload_n (m := 179) (pc := 12) (n := 1) (by decide +kernel) rfl).trans ?_
    refine (X_iaload (m := 179) (pc := 13)  (by decide +kernel) ).trans ?_
    refine ite_congr rfl (fun _ => ?_) (fun _ => rfl)
    refine (X_goto (m := 179) (pc := 14) (off := 4) (tg := 18) (by decide +kernel) (by decide +kernel)).trans ?_
    exact X_ireturn (m := 179) (pc := 18) (f := 1) (by decide +kernel) (by decide +kernel) rfl
theorem E_X11_isSmall {σ : AS} {x0 : Int} : a_m 180 [a_i (x0)] σ = a_X 180 0 [a_i (x0)] [] σ := a_m_eq (by rw [a_entry, show m_maxL 180 = 1 from by decide +kernel]; rfl)
theorem B_X11_isSmall_0 {k : Nat → Nat × Nat} {u : Nat → Nat → Int} {g : Nat → Nat → Nat} {t : Nat × Nat × Nat} {x0 : Int} : a_X 180 0 [a_i (x0)] [] (k, u, g, t) = if (x0 : Int) < (97 : Int) then some (.inl (some (a_i (0))), (k, u, g, t)) else if (x0 : Int) > (122 : Int) then some (.inl (some (a_i (0))), (k, u, g, t)) else some (.inl (some (a_i (1))), (k, u, g, t)) := by
  refine (X_iload_n (m := 180) (pc := 0) (n := 0) (by decide +kernel) rfl).trans ?_
  refine (X_bipush (m := 180) (pc := 1) (n := 97) (by decide +kernel) ).trans ?_
  refine (X_ic_lt (m := 180) (pc := 3) (off := 13) (tg := 16) (by decide +kernel) (by decide +kernel)).trans ?_
  refine ite_congr rfl (fun _ => ?_) (fun _ => ?_)
  · refine (X_iconst (m := 180) (pc := 16) (n := 0) (by decide +kernel) ).trans ?_
    exact X_ireturn (m := 180) (pc := 17) (f := 2) (by decide +kernel) (by decide +kernel) rfl
  · refine (X_iload_n (m := 180) (pc := 6) (n := 0) (by decide +kernel) rfl).trans ?_
    refine (X_bipush (m := 180) (pc := 7) (n := 122) (by decide +kernel) ).trans ?_
    refine (X_ic_gt (m := 180) (pc := 9) (off := 7) (tg := 16) (by decide +kernel) (by decide +kernel)).trans ?_
    refine ite_congr rfl (fun _ => ?_) (fun _ => ?_)
    · refine (X_iconst (m := 180) (pc := 16) (n := 0) (by decide +kernel) ).trans ?_
      exact X_ireturn (m := 180) (pc := 17) (f := 2) (by decide +kernel) (by decide +kernel) rfl
    · refine (X_iconst (m := 180) (pc := 12) (n := 1) (by decide +kernel) ).trans ?_
      refine (X_goto (m := 180) (pc := 13) (off := 4) (tg := 17) (by decide +kernel) (by decide +kernel)).trans ?_
      exact X_ireturn (m := 180) (pc := 17) (f := 2) (by decide +kernel) (by decide +kernel) rfl
theorem E_X11_isDigit {σ : AS} {x0 : Int} : a_m 181 [a_i (x0)] σ = a_X 181 0 [a_i (x0)] [] σ := a_m_eq (by rw [a_entry, show m_maxL 181 = 1 from by decide +kernel]; rfl)
theorem B_X11_isDigit_0 {k : Nat → Nat × Nat} {u : Nat → Nat → Int} {g : Nat → Nat → Nat} {t : Nat × Nat × Nat} {x0 : Int} : a_X 181 0 [a_i (x0)] [] (k, u, g, t) = if (x0 : Int) < (48 : Int) then some (.inl (some (a_i (0))), (k, u, g, t)) else if (x0 : Int) > (57 : Int) then some (.inl (some (a_i (0))), (k, u, g, t)) else some (.inl (some (a_i (1))), (k, u, g, t)) := by
  refine (X_iload_n (m := 181) (pc := 0) (n := 0) (by decide +kernel) rfl).trans ?_
  refine (X_bipush (m := 181) (pc := 1) (n := 48) (by decide +kernel) ).trans ?_
  refine (X_ic_lt (m := 181) (pc := 3) (off := 13) (tg := 16) (by decide +kernel) (by decide +kernel)).trans ?_
  refine ite_congr rfl (fun _ => ?_) (fun _ => ?_)
  · refine (X_iconst (m := 181) (pc := 16) (n := 0) (by decide +kernel) ).trans ?_
    exact X_ireturn (m := 181) (pc := 17) (f := 2) (by decide +kernel) (by decide +kernel) rfl
  · refine (X_iload_n (m := 181) (pc := 6) (n := 0) (by decide +kernel) rfl).trans ?_
    refine (X_bipush (m := 181) (pc := 7) (n := 57) (by decide +kernel) ).trans ?_
    refine (X_ic_gt (m := 181) (pc := 9) (off := 7) (tg := 16) (by decide +kernel) (by decide +kernel)).trans ?_
    refine ite_congr rfl (fun _ => ?_) (fun _ => ?_)
    · refine (X_iconst (m := 181) (pc := 16) (n := 0) (by decide +kernel) ).trans ?_
      exact X_ireturn (m := 181) (pc := 17) (f := 2) (by decide +kernel) (by decide +kernel) rfl
    · refine (X_iconst (m := 181) (pc := 12) (n := 1) (by decide +kernel) ).trans ?_
      refine (X_goto (m := 181) (pc := 13) (off := 4) (tg := 17) (by decide +kernel) (by decide +kernel)).trans ?_
      exact X_ireturn (m := 181) (pc := 17) (f := 2) (by decide +kernel) (by decide +kernel) rfl
theorem E_X11_token {σ : AS} {r0 : Nat} : a_m 182 [a_r (r0)] σ = a_X 182 0 [a_r (r0), a_x false] [] σ := a_m_eq (by rw [a_entry, show m_maxL 182 = 2 from by decide +kernel]; rfl)
theorem B_X11_token_0 {k : Nat → Nat × Nat} {u : Nat → Nat → Int} {g : Nat → Nat → Nat} {t : Nat × Nat × Nat} {r0 : Nat} {v1 : AV} : a_X 182 0 [a_r (r0), v1] [] (k, u, g, t) = if (k r0).1 = 11 then if (k r0).1 = 11 then (a_m 179 [a_r (r0), a_i (u r0 11)] (k, u, g, t)).bind (a_back 182 5 3 [a_r (r0), v1] []) else none else none := by
  refine (X_aload_n (m := 182) (pc := 0) (n := 0) (by decide +kernel) rfl).trans ?_
  refine (X_aload_n (m := 182) (pc := 1) (n := 0) (by decide +kernel) rfl).trans ?_
  refine (X_getI (m := 182) (pc := 2) (n := 95) (c := 11) (q := 11) (ty := 1) (fi := false) (by decide +kernel) (by decide +kernel) (by decide +kernel)).trans ?_
  refine ite_congr rfl (fun _ => ?_) (fun _ => rfl)
  refine (X_call_vi (m := 182) (pc := 5) (q := 98) (y := 179) (n := 2) (as := [a_r (r0), a_i (u r0 11)]) (rest := []) (by decide +kernel) (by decide +kernel) (by decide +kernel) (by decide +kernel) rfl rfl (Nat.le_of_ble_eq_true rfl) (Nat.le_of_ble_eq_true rfl) rfl (by rw [show m_maxL 179 = 2 from by decide +kernel]; exact Nat.le_of_ble_eq_true rfl)).trans ?_
  exact ite_congr (by simp [a_rcv, show m_recv 179 = 11 from by decide +kernel]) (fun _ => rfl) (fun _ => rfl)
theorem B_X11_token_8 {k : Nat → Nat × Nat} {u : Nat → Nat → Int} {g : Nat → Nat → Nat} {t : Nat × Nat × Nat} {r0 : Nat} {v1 : AV} {y0 : Int} : a_X 182 8 [a_r (r0), v1] [a_i (y0)] (k, u, g, t) = if (y0 : Int) ≠ (32 : Int) then if (k r0).1 = 11 then if (k r0).1 = 11 then if (k r0).1 = 11 then if (k r0).1 = 11 then (a_m 179 [a_r (r0), a_i ((upm u r0 12 (u r0 11)) r0 11)] (k, (upm u r0 12 (u r0 11)), g, t)).bind (a_back 182 39 3 [a_r (r0), v1] []) else none else none else none else none else if (k r0).1 = 11 then if (k r0).1 = 11 then a_X 182 0 [a_r (r0), v1] [] (k, (upm u r0 11 (wr ((u r0 11) + 1))), g, t) else none else none := by
  refine (X_bipush (m := 182) (pc := 8) (n := 32) (by decide +kernel) ).trans ?_
  refine (X_ic_ne (m := 182) (pc := 10) (off := 16) (tg := 26) (by decide +kernel) (by decide +kernel)).trans ?_
  refine ite_congr rfl (fun _ => ?_) (fun _ => ?_)
  · refine (X_aload_n (m := 182) (pc := 26) (n := 0) (by decide +kernel) rfl).trans ?_
    refine (X_aload_n (m := 182) (pc := 27) (n := 0) (by decide +kernel) rfl).trans ?_
    refine (X_getI (m := 182) (pc := 28) (n := 95) (c := 11) (q := 11) (ty := 1) (fi := false) (by decide +kernel) (by decide +kernel) (by decide +kernel)).trans ?_
    refine ite_congr rfl (fun _ => ?_) (fun _ => rfl)
    refine (X_putI (m := 182) (pc := 31) (n := 102) (c := 11) (q := 12) (fi := false) (by decide +kernel) (by decide +kernel) (fun h => by cases h) (by decide +kernel)).trans ?_
    refine ite_congr rfl (fun _ => ?_) (fun _ => rfl)
    refine (X_aload_n (m := 182) (pc := 34) (n := 0) (by decide +kernel) rfl).trans ?_
    refine (X_aload_n (m := 182) (pc := 35) (n := 0) (by decide +kernel) rfl).trans ?_
    refine (X_getI (m := 182) (pc := 36) (n := 95) (c := 11) (q := 11) (ty := 1) (fi := false) (by decide +kernel) (by decide +kernel) (by decide +kernel)).trans ?_
    refine ite_congr rfl (fun _ => ?_) (fun _ => rfl)
    refine (X_call_vi (m := 182) (pc := 39) (q := 98) (y := 179) (n := 2) (as := [a_r (r0), a_i ((upm u r0 12 (u r0 11)) r0 11)]) (rest := []) (by decide +kernel) (by decide +kernel) (by decide +kernel) (by decide +kernel) rfl rfl (Nat.le_of_ble_eq_true rfl) (Nat.le_of_ble_eq_true rfl) rfl (by rw [show m_maxL 179 = 2 from by decide +kernel]; exact Nat.le_of_ble_eq_true rfl)).trans ?_
    exact ite_congr (by simp [a_rcv, show m_recv 179 = 11 from by decide +kernel]) (fun _ => rfl) (fun _ => rfl)
  · refine (X_aload_n (m := 182) (pc := 13) (n := 0) (by decide +kernel) rfl).trans ?_
    refine (X_dup (m := 182) (pc := 14)  (by decide +kernel) rfl rfl).trans ?_
    refine (X_getI (m := 182) (pc := 15) (n := 95) (c := 11) (q := 11) (ty := 1) (fi := false) (by decide +kernel) (by decide +kernel) (by decide +kernel)).trans ?_
    refine ite_congr rfl (fun _ => ?_) (fun _ => rfl)
    refine (X_iconst (m := 182) (pc := 18) (n := 1) (by decide +kernel) ).trans ?_
    refine (X_iadd (m := 182) (pc := 19)  (by decide +kernel) ).trans ?_
    refine (X_putI (m := 182) (pc := 20) (n := 95) (c := 11) (q := 11) (fi := false) (by decide +kernel) (by decide +kernel) (fun h => by cases h) (by decide +kernel)).trans ?_
    refine ite_congr rfl (fun _ => ?_) (fun _ => rfl)
    refine (X_goto (m := 182) (pc := 23) (off := -23) (tg := 0) (by decide +kernel) (by decide +kernel)).trans ?_
    rfl
theorem B_X11_token_42 {k : Nat → Nat × Nat} {u : Nat → Nat → Int} {g : Nat → Nat → Nat} {t : Nat × Nat × Nat} {r0 : Nat} {v1 : AV} {y0 : Int} : a_X 182 42 [a_r (r0), v1] [a_i (y0)] (k, u, g, t) = if (y0 : Int) ≠ (-1 : Int) then (a_m 180 [a_i (y0)] (k, u, g, t)).bind (a_back 182 57 3 [a_r (r0), a_i (y0)] []) else if (k r0).1 = 11 then some (.inl none, (k, (upm u r0 13 0), g, t)) else none := by
  refine (X_istore_n (m := 182) (pc := 42) (n := 1) (by decide +kernel) rfl (Nat.le_of_ble_eq_true rfl) rfl).trans ?_
  refine (X_iload_n (m := 182) (pc := 43) (n := 1) (by decide +kernel) rfl).trans ?_
  refine (X_iconst (m := 182) (pc := 44) (n := -1) (by decide +kernel) ).trans ?_
  refine (X_ic_ne (m := 182) (pc := 45) (off := 11) (tg := 56) (by decide +kernel) (by decide +kernel)).trans ?_
  refine ite_congr rfl (fun _ => ?_) (fun _ => ?_)
  · refine (X_iload_n (m := 182) (pc := 56) (n := 1) (by decide +kernel) rfl).trans ?_
    refine (X_call_st (m := 182) (pc := 57) (q := 108) (y := 180) (n := 1) (as := [a_i (y0)]) (rest := []) (by decide +kernel) (by decide +kernel) (by decide +kernel) (by decide +kernel) rfl rfl (Nat.le_of_ble_eq_true rfl) (Nat.le_of_ble_eq_true rfl) rfl (by rw [show m_maxL 180 = 1 from by decide +kernel]; exact Nat.le_of_ble_eq_true rfl)).trans ?_
    exact if_pos rfl
  · refine (X_aload_n (m := 182) (pc := 48) (n := 0) (by decide +kernel) rfl).trans ?_
    refine (X_iconst (m := 182) (pc := 49) (n := 0) (by decide +kernel) ).trans ?_
    refine (X_putI (m := 182) (pc := 50) (n := 105) (c := 11) (q := 13) (fi := false) (by decide +kernel) (by decide +kernel) (fun h => by cases h) (by decide +kernel)).trans ?_
    refine ite_congr rfl (fun _ => ?_) (fun _ => rfl)
    refine (X_goto (m := 182) (pc := 53) (off := 192) (tg := 245) (by decide +kernel) (by decide +kernel)).trans ?_
    exact X_return (m := 182) (pc := 245) (by decide +kernel) (by decide +kernel)
theorem B_X11_token_60 {k : Nat → Nat × Nat} {u : Nat → Nat → Int} {g : Nat → Nat → Nat} {t : Nat × Nat × Nat} {r0 : Nat} {x1 : Int} {y0 : Int} : a_X 182 60 [a_r (r0), a_i (x1)] [a_i (y0)] (k, u, g, t) = if (y0 : Int) = 0 then (a_m 181 [a_i (x1)] (k, u, g, t)).bind (a_back 182 117 3 [a_r (r0), a_i (x1)] []) else a_X 182 63 [a_r (r0), a_i (x1)] [] (k, u, g, t) := by
  refine (X_if_eq (m := 182) (pc := 60) (off := 56) (tg := 116) (by decide +kernel) (by decide +kernel)).trans ?_
  refine ite_congr rfl (fun _ => ?_) (fun _ => ?_)
  · refine (X_iload_n (m := 182) (pc := 116) (n := 1) (by decide +kernel) rfl).trans ?_
    refine (X_call_st (m := 182) (pc := 117) (q := 111) (y := 181) (n := 1) (as := [a_i (x1)]) (rest := []) (by decide +kernel) (by decide +kernel) (by decide +kernel) (by decide +kernel) rfl rfl (Nat.le_of_ble_eq_true rfl) (Nat.le_of_ble_eq_true rfl) rfl (by rw [show m_maxL 181 = 1 from by decide +kernel]; exact Nat.le_of_ble_eq_true rfl)).trans ?_
    exact if_pos rfl
  · rfl
theorem B_X11_token_120 {k : Nat → Nat × Nat} {u : Nat → Nat → Int} {g : Nat → Nat → Nat} {t : Nat × Nat × Nat} {r0 : Nat} {x1 : Int} {y0 : Int} : a_X 182 120 [a_r (r0), a_i (x1)] [a_i (y0)] (k, u, g, t) = if (y0 : Int) = 0 then if (x1 : Int) ≠ (59 : Int) then if (k r0).1 = 11 then if (k r0).1 = 11 then if (k r0).1 = 11 then some (.inl none, (k, (upm (upm u r0 13 4) r0 11 (wr (((upm u r0 13 4) r0 11) + 1))), g, t)) else none else none else none else if (k r0).1 = 11 then if (k r0).1 = 11 then if (k r0).1 = 11 then some (.inl none, (k, (upm (upm u r0 13 3) r0 11 (wr (((upm u r0 13 3) r0 11) + 1))), g, t)) else none else none else none else if (k r0).1 = 11 then a_X 182 128 [a_r (r0), a_i (x1)] [] (k, (upm u r0 14 0), g, t) else none := by
  refine (X_if_eq (m := 182) (pc := 120) (off := 100) (tg := 220) (by decide +kernel) (by decide +kernel)).trans ?_
  refine ite_congr rfl (fun _ => ?_) (fun _ => ?_)
  · refine (X_aload_n (m := 182) (pc := 220) (n := 0) (by decide +kernel) rfl).trans ?_
    refine (X_iload_n (m := 182) (pc := 221) (n := 1) (by decide +kernel) rfl).trans ?_
    refine (X_bipush (m := 182) (pc := 222) (n := 59) (by decide +kernel) ).trans ?_
    refine (X_ic_ne (m := 182) (pc := 224) (off := 7) (tg := 231) (by decide +kernel) (by decide +kernel)).trans ?_
    refine ite_congr rfl (fun _ => ?_) (fun _ => ?_)
    · refine (X_iconst (m := 182) (pc := 231) (n := 4) (by decide +kernel) ).trans ?_
      refine (X_putI (m := 182) (pc := 232) (n := 105) (c := 11) (q := 13) (fi := false) (by decide +kernel) (by decide +kernel) (fun h => by cases h) (by decide +kernel)).trans ?_
      refine ite_congr rfl (fun _ => ?_) (fun _ => rfl)
      refine (X_aload_n (m := 182) (pc := 235) (n := 0) (by decide +kernel) rfl).trans ?_
      refine (X_dup (m := 182) (pc := 236)  (by decide +kernel) rfl rfl).trans ?_
      refine (X_getI (m := 182) (pc := 237) (n := 95) (c := 11) (q := 11) (ty := 1) (fi := false) (by decide +kernel) (by decide +kernel) (by decide +kernel)).trans ?_
      refine ite_congr rfl (fun _ => ?_) (fun _ => rfl)
      refine (X_iconst (m := 182) (pc := 240) (n := 1) (by decide +kernel) ).trans ?_
      refine (X_iadd (m := 182) (pc := 241)  (by decide +kernel) ).trans ?_
      refine (X_putI (m := 182) (pc := 242) (n := 95) (c := 11) (q := 11) (fi := false) (by decide +kernel) (by decide +kernel) (fun h => by cases h) (by decide +kernel)).trans ?_
      refine ite_congr rfl (fun _ => ?_) (fun _ => rfl)
      exact X_return (m := 182) (pc := 245) (by decide +kernel) (by decide +kernel)
    · refine (X_iconst (m := 182) (pc := 227) (n := 3) (by decide +kernel) ).trans ?_
      refine (X_goto (m := 182) (pc := 228) (off := 4) (tg := 232) (by decide +kernel) (by decide +kernel)).trans ?_
      refine (X_putI (m := 182) (pc := 232) (n := 105) (c := 11) (q := 13) (fi := false) (by decide +kernel) (by decide +kernel) (fun h => by cases h) (by decide +kernel)).trans ?_
      refine ite_congr rfl (fun _ => ?_) (fun _ => rfl)
      refine (X_aload_n (m := 182) (pc := 235) (n := 0) (by decide +kernel) rfl).trans ?_
      refine (X_dup (m := 182) (pc := 236)  (by decide +kernel) rfl rfl).trans ?_
      refine (X_getI (m := 182) (pc := 237) (n := 95) (c := 11) (q := 11) (ty := 1) (fi := false) (by decide +kernel) (by decide +kernel) (by decide +kernel)).trans ?_
      refine ite_congr rfl (fun _ => ?_) (fun _ => rfl)
      refine (X_iconst (m := 182) (pc := 240) (n := 1) (by decide +kernel) ).trans ?_
      refine (X_iadd (m := 182) (pc := 241)  (by decide +kernel) ).trans ?_
      refine (X_putI (m := 182) (pc := 242) (n := 95) (c := 11) (q := 11) (fi := false) (by decide +kernel) (by decide +kernel) (fun h => by cases h) (by decide +kernel)).trans ?_
      refine ite_congr rfl (fun _ => ?_) (fun _ => rfl)
      exact X_return (m := 182) (pc := 245) (by decide +kernel) (by decide +kernel)
  · refine (X_aload_n (m := 182) (pc := 123) (n := 0) (by decide +kernel) rfl).trans ?_
    refine (X_iconst (m := 182) (pc := 124) (n := 0) (by decide +kernel) ).trans ?_
    refine (X_putI (m := 182) (pc := 125) (n := 114) (c := 11) (q := 14) (fi := false) (by decide +kernel) (by decide +kernel) (fun h => by cases h) (by decide +kernel)).trans ?_
    refine ite_congr rfl (fun _ => ?_) (fun _ => rfl)
    rfl
theorem B_X11_token_63 {k : Nat → Nat × Nat} {u : Nat → Nat → Int} {g : Nat → Nat → Nat} {t : Nat × Nat × Nat} {r0 : Nat} {x1 : Int} : a_X 182 63 [a_r (r0), a_i (x1)] [] (k, u, g, t) = if (k r0).1 = 11 then if (k r0).1 = 11 then (a_m 179 [a_r (r0), a_i (u r0 11)] (k, u, g, t)).bind (a_back 182 68 3 [a_r (r0), a_i (x1)] []) else none else none := by
  refine (X_aload_n (m := 182) (pc := 63) (n := 0) (by decide +kernel) rfl).trans ?_
  refine (X_aload_n (m := 182) (pc := 64) (n := 0) (by decide +kernel) rfl).trans ?_
  refine (X_getI (m := 182) (pc := 65) (n := 95) (c := 11) (q := 11) (ty := 1) (fi := false) (by decide +kernel) (by decide +kernel) (by decide +kernel)).trans ?_
  refine ite_congr rfl (fun _ => ?_) (fun _ => rfl)
  refine (X_call_vi (m := 182) (pc := 68) (q := 98) (y := 179) (n := 2) (as := [a_r (r0), a_i (u r0 11)]) (rest := []) (by decide +kernel) (by decide +kernel) (by decide +kernel) (by decide +kernel) rfl rfl (Nat.le_of_ble_eq_true rfl) (Nat.le_of_ble_eq_true rfl) rfl (by rw [show m_maxL 179 = 2 from by decide +kernel]; exact Nat.le_of_ble_eq_true rfl)).trans ?_
  exact ite_congr (by simp [a_rcv, show m_recv 179 = 11 from by decide +kernel]) (fun _ => rfl) (fun _ => rfl)
theorem B_X11_token_128 {k : Nat → Nat × Nat} {u : Nat → Nat → Int} {g : Nat → Nat → Nat} {t : Nat × Nat × Nat} {r0 : Nat} {x1 : Int} : a_X 182 128 [a_r (r0), a_i (x1)] [] (k, u, g, t) = if (k r0).1 = 11 then if (k r0).1 = 11 then (a_m 179 [a_r (r0), a_i (u r0 11)] (k, u, g, t)).bind (a_back 182 133 3 [a_r (r0), a_i (x1)] []) else none else none := by
  refine (X_aload_n (m := 182) (pc := 128) (n := 0) (by decide +kernel) rfl).trans ?_
  refine (X_aload_n (m := 182) (pc := 129) (n := 0) (by decide +kernel) rfl).trans ?_
  refine (X_getI (m := 182) (pc := 130) (n := 95) (c := 11) (q := 11) (ty := 1) (fi := false) (by decide +kernel) (by decide +kernel) (by decide +kernel)).trans ?_
  refine ite_congr rfl (fun _ => ?_) (fun _ => rfl)
  refine (X_call_vi (m := 182) (pc := 133) (q := 98) (y := 179) (n := 2) (as := [a_r (r0), a_i (u r0 11)]) (rest := []) (by decide +kernel) (by decide +kernel) (by decide +kernel) (by decide +kernel) rfl rfl (Nat.le_of_ble_eq_true rfl) (Nat.le_of_ble_eq_true rfl) rfl (by rw [show m_maxL 179 = 2 from by decide +kernel]; exact Nat.le_of_ble_eq_true rfl)).trans ?_
  exact ite_congr (by simp [a_rcv, show m_recv 179 = 11 from by decide +kernel]) (fun _ => rfl) (fun _ => rfl)
theorem B_X11_token_71 {k : Nat → Nat × Nat} {u : Nat → Nat → Int} {g : Nat → Nat → Nat} {t : Nat × Nat × Nat} {r0 : Nat} {x1 : Int} {y0 : Int} : a_X 182 71 [a_r (r0), a_i (x1)] [a_i (y0)] (k, u, g, t) = (a_m 180 [a_i (y0)] (k, u, g, t)).bind (a_back 182 71 3 [a_r (r0), a_i (x1)] []) := by
  refine (X_call_st (m := 182) (pc := 71) (q := 108) (y := 180) (n := 1) (as := [a_i (y0)]) (rest := []) (by decide +kernel) (by decide +kernel) (by decide +kernel) (by decide +kernel) rfl rfl (Nat.le_of_ble_eq_true rfl) (Nat.le_of_ble_eq_true rfl) rfl (by rw [show m_maxL 180 = 1 from by decide +kernel]; exact Nat.le_of_ble_eq_true rfl)).trans ?_
  exact if_pos rfl
theorem B_X11_token_136 {k : Nat → Nat × Nat} {u : Nat → Nat → Int} {g : Nat → Nat → Nat} {t : Nat × Nat × Nat} {r0 : Nat} {x1 : Int} {y0 : Int} : a_X 182 136 [a_r (r0), a_i (x1)] [a_i (y0)] (k, u, g, t) = (a_m 181 [a_i (y0)] (k, u, g, t)).bind (a_back 182 136 3 [a_r (r0), a_i (x1)] []) := by
  refine (X_call_st (m := 182) (pc := 136) (q := 111) (y := 181) (n := 1) (as := [a_i (y0)]) (rest := []) (by decide +kernel) (by decide +kernel) (by decide +kernel) (by decide +kernel) rfl rfl (Nat.le_of_ble_eq_true rfl) (Nat.le_of_ble_eq_true rfl) rfl (by rw [show m_maxL 181 = 1 from by decide +kernel]; exact Nat.le_of_ble_eq_true rfl)).trans ?_
  exact if_pos rfl
theorem B_X11_token_74 {k : Nat → Nat × Nat} {u : Nat → Nat → Int} {g : Nat → Nat → Nat} {t : Nat × Nat × Nat} {r0 : Nat} {x1 : Int} {y0 : Int} : a_X 182 74 [a_r (r0), a_i (x1)] [a_i (y0)] (k, u, g, t) = if (y0 : Int) = 0 then if (k r0).1 = 11 then if (k r0).1 = 11 then if (wr ((u r0 11) - (u r0 12)) : Int) ≤ (6 : Int) then if (k r0).1 = 11 then some (.inl none, (k, (upm u r0 13 1), g, t)) else none else if (k r0).1 = 11 then some (.inl none, (k, (upm u r0 13 4), g, t)) else none else none else none else if (k r0).1 = 11 then if (k r0).1 = 11 then a_X 182 63 [a_r (r0), a_i (x1)] [] (k, (upm u r0 11 (wr ((u r0 11) + 1))), g, t) else none else none := by
  refine (X_if_eq (m := 182) (pc := 74) (off := 16) (tg := 90) (by decide +kernel) (by decide +kernel)).trans ?_
  refine ite_congr rfl (fun _ => ?_) (fun _ => ?_)
  · refine (X_aload_n (m := 182) (pc := 90) (n := 0) (by decide +kernel) rfl).trans ?_
    refine (X_aload_n (m := 182) (pc := 91) (n := 0) (by decide +kernel) rfl).trans ?_
    refine (X_getI (m := 182) (pc := 92) (n := 95) (c := 11) (q := 11) (ty := 1) (fi := false) (by decide +kernel) (by decide +kernel) (by decide +kernel)).trans ?_
    refine ite_congr rfl (fun _ => ?_) (fun _ => rfl)
    refine (X_aload_n (m := 182) (pc := 95) (n := 0) (by decide +kernel) rfl).trans ?_
    refine (X_getI (m := 182) (pc := 96) (n := 102) (c := 11) (q := 12) (ty := 1) (fi := false) (by decide +kernel) (by decide +kernel) (by decide +kernel)).trans ?_
    refine ite_congr rfl (fun _ => ?_) (fun _ => rfl)
    refine (X_isub (m := 182) (pc := 99)  (by decide +kernel) ).trans ?_
    refine (X_bipush (m := 182) (pc := 100) (n := 6) (by decide +kernel) ).trans ?_
    refine (X_ic_le (m := 182) (pc := 102) (off := 7) (tg := 109) (by decide +kernel) (by decide +kernel)).trans ?_
    refine ite_congr rfl (fun _ => ?_) (fun _ => ?_)
    · refine (X_iconst (m := 182) (pc := 109) (n := 1) (by decide +kernel) ).trans ?_
      refine (X_putI (m := 182) (pc := 110) (n := 105) (c := 11) (q := 13) (fi := false) (by decide +kernel) (by decide +kernel) (fun h => by cases h) (by decide +kernel)).trans ?_
      refine ite_congr rfl (fun _ => ?_) (fun _ => rfl)
      refine (X_goto (m := 182) (pc := 113) (off := 132) (tg := 245) (by decide +kernel) (by decide +kernel)).trans ?_
      exact X_return (m := 182) (pc := 245) (by decide +kernel) (by decide +kernel)
    · refine (X_iconst (m := 182) (pc := 105) (n := 4) (by decide +kernel) ).trans ?_
      refine (X_goto (m := 182) (pc := 106) (off := 4) (tg := 110) (by decide +kernel) (by decide +kernel)).trans ?_
      refine (X_putI (m := 182) (pc := 110) (n := 105) (c := 11) (q := 13) (fi := false) (by decide +kernel) (by decide +kernel) (fun h => by cases h) (by decide +kernel)).trans ?_
      refine ite_congr rfl (fun _ => ?_) (fun _ => rfl)
      refine (X_goto (m := 182) (pc := 113) (off := 132) (tg := 245) (by decide +kernel) (by decide +kernel)).trans ?_
      exact X_return (m := 182) (pc := 245) (by decide +kernel) (by decide +kernel)
  · refine (X_aload_n (m := 182) (pc := 77) (n := 0) (by decide +kernel) rfl).trans ?_
    refine (X_dup (m := 182) (pc := 78)  (by decide +kernel) rfl rfl).trans ?_
    refine (X_getI (m := 182) (pc := 79) (n := 95) (c := 11) (q := 11) (ty := 1) (fi := false) (by decide +kernel) (by decide +kernel) (by decide +kernel)).trans ?_
    refine ite_congr rfl (fun _ => ?_) (fun _ => rfl)
    refine (X_iconst (m := 182) (pc := 82) (n := 1) (by decide +kernel) ).trans ?_
    refine (X_iadd (m := 182) (pc := 83)  (by decide +kernel) ).trans ?_
    refine (X_putI (m := 182) (pc := 84) (n := 95) (c := 11) (q := 11) (fi := false) (by decide +kernel) (by decide +kernel) (fun h => by cases h) (by decide +kernel)).trans ?_
    refine ite_congr rfl (fun _ => ?_) (fun _ => rfl)
    refine (X_goto (m := 182) (pc := 87) (off := -24) (tg := 63) (by decide +kernel) (by decide +kernel)).trans ?_
    rfl
theorem B_X11_token_139 {k : Nat → Nat × Nat} {u : Nat → Nat → Int} {g : Nat → Nat → Nat} {t : Nat × Nat × Nat} {r0 : Nat} {x1 : Int} {y0 : Int} : a_X 182 139 [a_r (r0), a_i (x1)] [a_i (y0)] (k, u, g, t) = if (y0 : Int) = 0 then if (k r0).1 = 11 then if (k r0).1 = 11 then if (wr ((u r0 11) - (u r0 12)) : Int) ≤ (4 : Int) then if (k r0).1 = 11 then some (.inl none, (k, (upm u r0 13 2), g, t)) else none else if (k r0).1 = 11 then some (.inl none, (k, (upm u r0 13 4), g, t)) else none else none else none else if (k r0).1 = 11 then if (k r0).1 = 11 then if (wr ((u r0 11) - (u r0 12)) : Int) ≥ (4 : Int) then if (k r0).1 = 11 then if (k r0).1 = 11 then if (k r0).1 = 11 then a_X 182 128 [a_r (r0), a_i (x1)] [] (k, (upm (upm u r0 14 0) r0 11 (wr (((upm u r0 14 0) r0 11) + 1))), g, t) else none else none else none else if (k r0).1 = 11 then if (k r0).1 = 11 then if (k r0).1 = 11 then (a_m 179 [a_r (r0), a_i (u r0 11)] (k, u, g, t)).bind (a_back 182 168 3 [a_r (r0), a_i (x1)] [a_i (wr (10 * (u r0 14))), a_r (r0)]) else none else none else none else none else none := by
  refine (X_if_eq (m := 182) (pc := 139) (off := 56) (tg := 195) (by decide +kernel) (by decide +kernel)).trans ?_
  refine ite_congr rfl (fun _ => ?_) (fun _ => ?_)
  · refine (X_aload_n (m := 182) (pc := 195) (n := 0) (by decide +kernel) rfl).trans ?_
    refine (X_aload_n (m := 182) (pc := 196) (n := 0) (by decide +kernel) rfl).trans ?_
    refine (X_getI (m := 182) (pc := 197) (n := 95) (c := 11) (q := 11) (ty := 1) (fi := false) (by decide +kernel) (by decide +kernel) (by decide +kernel)).trans ?_
    refine ite_congr rfl (fun _ => ?_) (fun _ => rfl)
    refine (X_aload_n (m := 182) (pc := 200) (n := 0) (by decide +kernel) rfl).trans ?_
    refine (X_getI (m := 182) (pc := 201) (n := 102) (c := 11) (q := 12) (ty := 1) (fi := false) (by decide +kernel) (by decide +kernel) (by decide +kernel)).trans ?_
    refine ite_congr rfl (fun _ => ?_) (fun _ => rfl)
    refine (X_isub (m := 182) (pc := 204)  (by decide +kernel) ).trans ?_
    refine (X_iconst (m := 182) (pc := 205) (n := 4) (by decide +kernel) ).trans ?_
    refine (X_ic_le (m := 182) (pc := 206) (off := 7) (tg := 213) (by decide +kernel) (by decide +kernel)).trans ?_
    refine ite_congr rfl (fun _ => ?_) (fun _ => ?_)
    · refine (X_iconst (m := 182) (pc := 213) (n := 2) (by decide +kernel) ).trans ?_
      refine (X_putI (m := 182) (pc := 214) (n := 105) (c := 11) (q := 13) (fi := false) (by decide +kernel) (by decide +kernel) (fun h => by cases h) (by decide +kernel)).trans ?_
      refine ite_congr rfl (fun _ => ?_) (fun _ => rfl)
      refine (X_goto (m := 182) (pc := 217) (off := 28) (tg := 245) (by decide +kernel) (by decide +kernel)).trans ?_
      exact X_return (m := 182) (pc := 245) (by decide +kernel) (by decide +kernel)
    · refine (X_iconst (m := 182) (pc := 209) (n := 4) (by decide +kernel) ).trans ?_
      refine (X_goto (m := 182) (pc := 210) (off := 4) (tg := 214) (by decide +kernel) (by decide +kernel)).trans ?_
      refine (X_putI (m := 182) (pc := 214) (n := 105) (c := 11) (q := 13) (fi := false) (by decide +kernel) (by decide +kernel) (fun h => by cases h) (by decide +kernel)).trans ?_
      refine ite_congr rfl (fun _ => ?_) (fun _ => rfl)
      refine (X_goto (m := 182) (pc := 217) (off := 28) (tg := 245) (by decide +kernel) (by decide +kernel)).trans ?_
      exact X_return (m := 182) (pc := 245) (by decide +kernel) (by decide +kernel)
  · refine (X_aload_n (m := 182) (pc := 142) (n := 0) (by decide +kernel) rfl).trans ?_
    refine (X_aload_n (m := 182) (pc := 143) (n := 0) (by decide +kernel) rfl).trans ?_
    refine (X_getI (m := 182) (pc := 144) (n := 95) (c := 11) (q := 11) (ty := 1) (fi := false) (by decide +kernel) (by decide +kernel) (by decide +kernel)).trans ?_
    refine ite_congr rfl (fun _ => ?_) (fun _ => rfl)
    refine (X_aload_n (m := 182) (pc := 147) (n := 0) (by decide +kernel) rfl).trans ?_
    refine (X_getI (m := 182) (pc := 148) (n := 102) (c := 11) (q := 12) (ty := 1) (fi := false) (by decide +kernel) (by decide +kernel) (by decide +kernel)).trans ?_
    refine ite_congr rfl (fun _ => ?_) (fun _ => rfl)
    refine (X_isub (m := 182) (pc := 151)  (by decide +kernel) ).trans ?_
    refine (X_iconst (m := 182) (pc := 152) (n := 4) (by decide +kernel) ).trans ?_
    refine (X_ic_ge (m := 182) (pc := 153) (off := 25) (tg := 178) (by decide +kernel) (by decide +kernel)).trans ?_
    refine ite_congr rfl (fun _ => ?_) (fun _ => ?_)
    · refine (X_iconst (m := 182) (pc := 178) (n := 0) (by decide +kernel) ).trans ?_
      refine (X_putI (m := 182) (pc := 179) (n := 114) (c := 11) (q := 14) (fi := false) (by decide +kernel) (by decide +kernel) (fun h => by cases h) (by decide +kernel)).trans ?_
      refine ite_congr rfl (fun _ => ?_) (fun _ => rfl)
      refine (X_aload_n (m := 182) (pc := 182) (n := 0) (by decide +kernel) rfl).trans ?_
      refine (X_dup (m := 182) (pc := 183)  (by decide +kernel) rfl rfl).trans ?_
      refine (X_getI (m := 182) (pc := 184) (n := 95) (c := 11) (q := 11) (ty := 1) (fi := false) (by decide +kernel) (by decide +kernel) (by decide +kernel)).trans ?_
      refine ite_congr rfl (fun _ => ?_) (fun _ => rfl)
      refine (X_iconst (m := 182) (pc := 187) (n := 1) (by decide +kernel) ).trans ?_
      refine (X_iadd (m := 182) (pc := 188)  (by decide +kernel) ).trans ?_
      refine (X_putI (m := 182) (pc := 189) (n := 95) (c := 11) (q := 11) (fi := false) (by decide +kernel) (by decide +kernel) (fun h => by cases h) (by decide +kernel)).trans ?_
      refine ite_congr rfl (fun _ => ?_) (fun _ => rfl)
      refine (X_goto (m := 182) (pc := 192) (off := -64) (tg := 128) (by decide +kernel) (by decide +kernel)).trans ?_
      rfl
    · refine (X_bipush (m := 182) (pc := 156) (n := 10) (by decide +kernel) ).trans ?_
      refine (X_aload_n (m := 182) (pc := 158) (n := 0) (by decide +kernel) rfl).trans ?_
      refine (X_getI (m := 182) (pc := 159) (n := 114) (c := 11) (q := 14) (ty := 1) (fi := false) (by decide +kernel) (by decide +kernel) (by decide +kernel)).trans ?_
      refine ite_congr rfl (fun _ => ?_) (fun _ => rfl)
      refine (X_imul (m := 182) (pc := 162)  (by decide +kernel) ).trans ?_
      refine (X_aload_n (m := 182) (pc := 163) (n := 0) (by decide +kernel) rfl).trans ?_
      refine (X_aload_n (m := 182) (pc := 164) (n := 0) (by decide +kernel) rfl).trans ?_
      refine (X_getI (m := 182) (pc := 165) (n := 95) (c := 11) (q := 11) (ty := 1) (fi := false) (by decide +kernel) (by decide +kernel) (by decide +kernel)).trans ?_
      refine ite_congr rfl (fun _ => ?_) (fun _ => rfl)
      refine (X_call_vi (m := 182) (pc := 168) (q := 98) (y := 179) (n := 2) (as := [a_r (r0), a_i (u r0 11)]) (rest := [a_i (wr (10 * (u r0 14))), a_r (r0)]) (by decide +kernel) (by decide +kernel) (by decide +kernel) (by decide +kernel) rfl rfl (Nat.le_of_ble_eq_true rfl) (Nat.le_of_ble_eq_true rfl) rfl (by rw [show m_maxL 179 = 2 from by decide +kernel]; exact Nat.le_of_ble_eq_true rfl)).trans ?_
      exact ite_congr (by simp [a_rcv, show m_recv 179 = 11 from by decide +kernel]) (fun _ => rfl) (fun _ => rfl)
theorem B_X11_token_171 {k : Nat → Nat × Nat} {u : Nat → Nat → Int} {g : Nat → Nat → Nat} {t : Nat × Nat × Nat} {r0 : Nat} {x1 : Int} {q0 : Nat} {y1 : Int} {y2 : Int} : a_X 182 171 [a_r (r0), a_i (x1)] [a_i (y2), a_i (y1), a_r (q0)] (k, u, g, t) = if (k q0).1 = 11 then if (k r0).1 = 11 then if (k r0).1 = 11 then a_X 182 128 [a_r (r0), a_i (x1)] [] (k, (upm (upm u q0 14 (wr ((wr (y1 + y2)) - 48))) r0 11 (wr (((upm u q0 14 (wr ((wr (y1 + y2)) - 48))) r0 11) + 1))), g, t) else none else none else none := by
  refine (X_iadd (m := 182) (pc := 171)  (by decide +kernel) ).trans ?_
  refine (X_bipush (m := 182) (pc := 172) (n := 48) (by decide +kernel) ).trans ?_
  refine (X_isub (m := 182) (pc := 174)  (by decide +kernel) ).trans ?_
  refine (X_goto (m := 182) (pc := 175) (off := 4) (tg := 179) (by decide +kernel) (by decide +kernel)).trans ?_
  refine (X_putI (m := 182) (pc := 179) (n := 114) (c := 11) (q := 14) (fi := false) (by decide +kernel) (by decide +kernel) (fun h => by cases h) (by decide +kernel)).trans ?_
  refine ite_congr rfl (fun _ => ?_) (fun _ => rfl)
  refine (X_aload_n (m := 182) (pc := 182) (n := 0) (by decide +kernel) rfl).trans ?_
  refine (X_dup (m := 182) (pc := 183)  (by decide +kernel) rfl rfl).trans ?_
  refine (X_getI (m := 182) (pc := 184) (n := 95) (c := 11) (q := 11) (ty := 1) (fi := false) (by decide +kernel) (by decide +kernel) (by decide +kernel)).trans ?_
  refine ite_congr rfl (fun _ => ?_) (fun _ => rfl)
  refine (X_iconst (m := 182) (pc := 187) (n := 1) (by decide +kernel) ).trans ?_
  refine (X_iadd (m := 182) (pc := 188)  (by decide +kernel) ).trans ?_
  refine (X_putI (m := 182) (pc := 189) (n := 95) (c := 11) (q := 11) (fi := false) (by decide +kernel) (by decide +kernel) (fun h => by cases h) (by decide +kernel)).trans ?_
  refine ite_congr rfl (fun _ => ?_) (fun _ => rfl)
  refine (X_goto (m := 182) (pc := 192) (off := -64) (tg := 128) (by decide +kernel) (by decide +kernel)).trans ?_
  rfl
theorem E_X11_fails {σ : AS} {r0 : Nat} {x1 : Int} : a_m 183 [a_r (r0), a_i (x1)] σ = a_X 183 0 [a_r (r0), a_i (x1)] [] σ := a_m_eq (by rw [a_entry, show m_maxL 183 = 2 from by decide +kernel]; rfl)
theorem B_X11_fails_0 {k : Nat → Nat × Nat} {u : Nat → Nat → Int} {g : Nat → Nat → Nat} {t : Nat × Nat × Nat} {r0 : Nat} {x1 : Int} : a_X 183 0 [a_r (r0), a_i (x1)] [] (k, u, g, t) = if (k r0).1 = 11 then if (u r0 15 : Int) ≠ 0 then some (.inl none, (k, u, g, t)) else if (k r0).1 = 11 then if (k r0).1 = 11 then if (k r0).1 = 11 then some (.inl none, (k, (upm (upm u r0 15 x1) r0 16 ((upm u r0 15 x1) r0 12)), g, t)) else none else none else none else none := by
  refine (X_aload_n (m := 183) (pc := 0) (n := 0) (by decide +kernel) rfl).trans ?_
  refine (X_getI (m := 183) (pc := 1) (n := 117) (c := 11) (q := 15) (ty := 1) (fi := false) (by decide +kernel) (by decide +kernel) (by decide +kernel)).trans ?_
  refine ite_congr rfl (fun _ => ?_) (fun _ => rfl)
  refine (X_if_ne (m := 183) (pc := 4) (off := 16) (tg := 20) (by decide +kernel) (by decide +kernel)).trans ?_
  refine ite_congr rfl (fun _ => ?_) (fun _ => ?_)
  · exact X_return (m := 183) (pc := 20) (by decide +kernel) (by decide +kernel)
  · refine (X_aload_n (m := 183) (pc := 7) (n := 0) (by decide +kernel) rfl).trans ?_
    refine (X_iload_n (m := 183) (pc := 8) (n := 1) (by decide +kernel) rfl).trans ?_
    refine (X_putI (m := 183) (pc := 9) (n := 117) (c := 11) (q := 15) (fi := false) (by decide +kernel) (by decide +kernel) (fun h => by cases h) (by decide +kernel)).trans ?_
    refine ite_congr rfl (fun _ => ?_) (fun _ => rfl)
    refine (X_aload_n (m := 183) (pc := 12) (n := 0) (by decide +kernel) rfl).trans ?_
    refine (X_aload_n (m := 183) (pc := 13) (n := 0) (by decide +kernel) rfl).trans ?_
    refine (X_getI (m := 183) (pc := 14) (n := 102) (c := 11) (q := 12) (ty := 1) (fi := false) (by decide +kernel) (by decide +kernel) (by decide +kernel)).trans ?_
    refine ite_congr rfl (fun _ => ?_) (fun _ => rfl)
    refine (X_putI (m := 183) (pc := 17) (n := 120) (c := 11) (q := 16) (fi := false) (by decide +kernel) (by decide +kernel) (fun h => by cases h) (by decide +kernel)).trans ?_
    refine ite_congr rfl (fun _ => ?_) (fun _ => rfl)
    exact X_return (m := 183) (pc := 20) (by decide +kernel) (by decide +kernel)
theorem E_X11_failsIf {σ : AS} {r0 : Nat} {x1 : Int} {x2 : Int} : a_m 184 [a_r (r0), a_i (x1), a_i (x2)] σ = a_X 184 0 [a_r (r0), a_i (x1), a_i (x2)] [] σ := a_m_eq (by rw [a_entry, show m_maxL 184 = 3 from by decide +kernel]; rfl)
theorem B_X11_failsIf_0 {k : Nat → Nat × Nat} {u : Nat → Nat → Int} {g : Nat → Nat → Nat} {t : Nat × Nat × Nat} {r0 : Nat} {x1 : Int} {x2 : Int} : a_X 184 0 [a_r (r0), a_i (x1), a_i (x2)] [] (k, u, g, t) = if (x1 : Int) = 0 then some (.inl none, (k, u, g, t)) else if (k r0).1 = 11 then (a_m 183 [a_r (r0), a_i (x2)] (k, u, g, t)).bind (a_back 184 6 3 [a_r (r0), a_i (x1), a_i (x2)] []) else none := by
  refine (X_iload_n (m := 184) (pc := 0) (n := 1) (by decide +kernel) rfl).trans ?_
  refine (X_if_eq (m := 184) (pc := 1) (off := 8) (tg := 9) (by decide +kernel) (by decide +kernel)).trans ?_
  refine ite_congr rfl (fun _ => ?_) (fun _ => ?_)
  · exact X_return (m := 184) (pc := 9) (by decide +kernel) (by decide +kernel)
  · refine (X_aload_n (m := 184) (pc := 4) (n := 0) (by decide +kernel) rfl).trans ?_
    refine (X_iload_n (m := 184) (pc := 5) (n := 2) (by decide +kernel) rfl).trans ?_
    refine (X_call_vi (m := 184) (pc := 6) (q := 123) (y := 183) (n := 2) (as := [a_r (r0), a_i (x2)]) (rest := []) (by decide +kernel) (by decide +kernel) (by decide +kernel) (by decide +kernel) rfl rfl (Nat.le_of_ble_eq_true rfl) (Nat.le_of_ble_eq_true rfl) rfl (by rw [show m_maxL 183 = 2 from by decide +kernel]; exact Nat.le_of_ble_eq_true rfl)).trans ?_
    exact ite_congr (by simp [a_rcv, show m_recv 183 = 11 from by decide +kernel]) (fun _ => rfl) (fun _ => rfl)
theorem B_X11_failsIf_9 {k : Nat → Nat × Nat} {u : Nat → Nat → Int} {g : Nat → Nat → Nat} {t : Nat × Nat × Nat} {r0 : Nat} {x1 : Int} {x2 : Int} : a_X 184 9 [a_r (r0), a_i (x1), a_i (x2)] [] (k, u, g, t) = some (.inl none, (k, u, g, t)) := by
  exact X_return (m := 184) (pc := 9) (by decide +kernel) (by decide +kernel)
theorem E_X11_goesOn {σ : AS} {r0 : Nat} : a_m 185 [a_r (r0)] σ = a_X 185 0 [a_r (r0)] [] σ := a_m_eq (by rw [a_entry, show m_maxL 185 = 1 from by decide +kernel]; rfl)
theorem B_X11_goesOn_0 {k : Nat → Nat × Nat} {u : Nat → Nat → Int} {g : Nat → Nat → Nat} {t : Nat × Nat × Nat} {r0 : Nat} : a_X 185 0 [a_r (r0)] [] (k, u, g, t) = if (k r0).1 = 11 then if (u r0 15 : Int) ≠ 0 then some (.inl none, (k, u, g, t)) else if (k r0).1 = 11 then (a_m 182 [a_r (r0)] (k, u, g, t)).bind (a_back 185 8 3 [a_r (r0)] []) else none else none := by
  refine (X_aload_n (m := 185) (pc := 0) (n := 0) (by decide +kernel) rfl).trans ?_
  refine (X_getI (m := 185) (pc := 1) (n := 117) (c := 11) (q := 15) (ty := 1) (fi := false) (by decide +kernel) (by decide +kernel) (by decide +kernel)).trans ?_
  refine ite_congr rfl (fun _ => ?_) (fun _ => rfl)
  refine (X_if_ne (m := 185) (pc := 4) (off := 7) (tg := 11) (by decide +kernel) (by decide +kernel)).trans ?_
  refine ite_congr rfl (fun _ => ?_) (fun _ => ?_)
  · exact X_return (m := 185) (pc := 11) (by decide +kernel) (by decide +kernel)
  · refine (X_aload_n (m := 185) (pc := 7) (n := 0) (by decide +kernel) rfl).trans ?_
    refine (X_call_vi (m := 185) (pc := 8) (q := 127) (y := 182) (n := 1) (as := [a_r (r0)]) (rest := []) (by decide +kernel) (by decide +kernel) (by decide +kernel) (by decide +kernel) rfl rfl (Nat.le_of_ble_eq_true rfl) (Nat.le_of_ble_eq_true rfl) rfl (by rw [show m_maxL 182 = 2 from by decide +kernel]; exact Nat.le_of_ble_eq_true rfl)).trans ?_
    exact ite_congr (by simp [a_rcv, show m_recv 182 = 11 from by decide +kernel]) (fun _ => rfl) (fun _ => rfl)
theorem B_X11_goesOn_11 {k : Nat → Nat × Nat} {u : Nat → Nat → Int} {g : Nat → Nat → Nat} {t : Nat × Nat × Nat} {r0 : Nat} : a_X 185 11 [a_r (r0)] [] (k, u, g, t) = some (.inl none, (k, u, g, t)) := by
  exact X_return (m := 185) (pc := 11) (by decide +kernel) (by decide +kernel)
theorem E_X11_isWord {σ : AS} {r0 : Nat} {r1 : Nat} : a_m 186 [a_r (r0), a_r (r1)] σ = a_X 186 0 [a_r (r0), a_r (r1), a_x false] [] σ := a_m_eq (by rw [a_entry, show m_maxL 186 = 3 from by decide +kernel]; rfl)
theorem B_X11_isWord_0 {k : Nat → Nat × Nat} {u : Nat → Nat → Int} {g : Nat → Nat → Nat} {t : Nat × Nat × Nat} {r0 : Nat} {r1 : Nat} {v2 : AV} : a_X 186 0 [a_r (r0), a_r (r1), v2] [] (k, u, g, t) = if (k r0).1 = 11 then if (u r0 15 : Int) ≠ 0 then some (.inl (some (a_i (0))), (k, u, g, t)) else if (k r0).1 = 11 then if (u r0 13 : Int) ≠ (1 : Int) then some (.inl (some (a_i (0))), (k, u, g, t)) else if (k r0).1 = 11 then if (k r0).1 = 11 then if (k r1).1 = 25 then (a_m 352 [a_r (r1)] (k, u, g, t)).bind (a_back 186 25 3 [a_r (r0), a_r (r1), v2] [a_i (wr ((u r0 11) - (u r0 12)))]) else none else none else none else none else none := by
  refine (X_aload_n (m := 186) (pc := 0) (n := 0) (by decide +kernel) rfl).trans ?_
  refine (X_getI (m := 186) (pc := 1) (n := 117) (c := 11) (q := 15) (ty := 1) (fi := false) (by decide +kernel) (by decide +kernel) (by decide +kernel)).trans ?_
  refine ite_congr rfl (fun _ => ?_) (fun _ => rfl)
  refine (X_if_ne (m := 186) (pc := 4) (off := 27) (tg := 31) (by decide +kernel) (by decide +kernel)).trans ?_
  refine ite_congr rfl (fun _ => ?_) (fun _ => ?_)
  · refine (X_iconst (m := 186) (pc := 31) (n := 0) (by decide +kernel) ).trans ?_
    exact X_ireturn (m := 186) (pc := 32) (f := 2) (by decide +kernel) (by decide +kernel) rfl
  · refine (X_aload_n (m := 186) (pc := 7) (n := 0) (by decide +kernel) rfl).trans ?_
    refine (X_getI (m := 186) (pc := 8) (n := 105) (c := 11) (q := 13) (ty := 1) (fi := false) (by decide +kernel) (by decide +kernel) (by decide +kernel)).trans ?_
    refine ite_congr rfl (fun _ => ?_) (fun _ => rfl)
    refine (X_iconst (m := 186) (pc := 11) (n := 1) (by decide +kernel) ).trans ?_
    refine (X_ic_ne (m := 186) (pc := 12) (off := 19) (tg := 31) (by decide +kernel) (by decide +kernel)).trans ?_
    refine ite_congr rfl (fun _ => ?_) (fun _ => ?_)
    · refine (X_iconst (m := 186) (pc := 31) (n := 0) (by decide +kernel) ).trans ?_
      exact X_ireturn (m := 186) (pc := 32) (f := 2) (by decide +kernel) (by decide +kernel) rfl
    · refine (X_aload_n (m := 186) (pc := 15) (n := 0) (by decide +kernel) rfl).trans ?_
      refine (X_getI (m := 186) (pc := 16) (n := 95) (c := 11) (q := 11) (ty := 1) (fi := false) (by decide +kernel) (by decide +kernel) (by decide +kernel)).trans ?_
      refine ite_congr rfl (fun _ => ?_) (fun _ => rfl)
      refine (X_aload_n (m := 186) (pc := 19) (n := 0) (by decide +kernel) rfl).trans ?_
      refine (X_getI (m := 186) (pc := 20) (n := 102) (c := 11) (q := 12) (ty := 1) (fi := false) (by decide +kernel) (by decide +kernel) (by decide +kernel)).trans ?_
      refine ite_congr rfl (fun _ => ?_) (fun _ => rfl)
      refine (X_isub (m := 186) (pc := 23)  (by decide +kernel) ).trans ?_
      refine (X_aload_n (m := 186) (pc := 24) (n := 1) (by decide +kernel) rfl).trans ?_
      refine (X_call_vi (m := 186) (pc := 25) (q := 130) (y := 352) (n := 1) (as := [a_r (r1)]) (rest := [a_i (wr ((u r0 11) - (u r0 12)))]) (by decide +kernel) (by decide +kernel) (by decide +kernel) (by decide +kernel) rfl rfl (Nat.le_of_ble_eq_true rfl) (Nat.le_of_ble_eq_true rfl) rfl (by rw [show m_maxL 352 = 1 from by decide +kernel]; exact Nat.le_of_ble_eq_true rfl)).trans ?_
      exact ite_congr (by simp [a_rcv, show m_recv 352 = 25 from by decide +kernel]) (fun _ => rfl) (fun _ => rfl)
theorem B_X11_isWord_28 {k : Nat → Nat × Nat} {u : Nat → Nat → Int} {g : Nat → Nat → Nat} {t : Nat × Nat × Nat} {r0 : Nat} {r1 : Nat} {v2 : AV} {y0 : Int} {y1 : Int} : a_X 186 28 [a_r (r0), a_r (r1), v2] [a_i (y1), a_i (y0)] (k, u, g, t) = if (y0 : Int) = (y1 : Int) then a_X 186 35 [a_r (r0), a_r (r1), a_i (0)] [] (k, u, g, t) else some (.inl (some (a_i (0))), (k, u, g, t)) := by
  refine (X_ic_eq (m := 186) (pc := 28) (off := 5) (tg := 33) (by decide +kernel) (by decide +kernel)).trans ?_
  refine ite_congr rfl (fun _ => ?_) (fun _ => ?_)
  · refine (X_iconst (m := 186) (pc := 33) (n := 0) (by decide +kernel) ).trans ?_
    refine (X_istore_n (m := 186) (pc := 34) (n := 2) (by decide +kernel) rfl (Nat.le_of_ble_eq_true rfl) rfl).trans ?_
    rfl
  · refine (X_iconst (m := 186) (pc := 31) (n := 0) (by decide +kernel) ).trans ?_
    exact X_ireturn (m := 186) (pc := 32) (f := 2) (by decide +kernel) (by decide +kernel) rfl
theorem B_X11_isWord_35 {k : Nat → Nat × Nat} {u : Nat → Nat → Int} {g : Nat → Nat → Nat} {t : Nat × Nat × Nat} {r0 : Nat} {r1 : Nat} {x2 : Int} : a_X 186 35 [a_r (r0), a_r (r1), a_i (x2)] [] (k, u, g, t) = if (k r1).1 = 25 then (a_m 352 [a_r (r1)] (k, u, g, t)).bind (a_back 186 37 3 [a_r (r0), a_r (r1), a_i (x2)] [a_i (x2)]) else none := by
  refine (X_iload_n (m := 186) (pc := 35) (n := 2) (by decide +kernel) rfl).trans ?_
  refine (X_aload_n (m := 186) (pc := 36) (n := 1) (by decide +kernel) rfl).trans ?_
  refine (X_call_vi (m := 186) (pc := 37) (q := 130) (y := 352) (n := 1) (as := [a_r (r1)]) (rest := [a_i (x2)]) (by decide +kernel) (by decide +kernel) (by decide +kernel) (by decide +kernel) rfl rfl (Nat.le_of_ble_eq_true rfl) (Nat.le_of_ble_eq_true rfl) rfl (by rw [show m_maxL 352 = 1 from by decide +kernel]; exact Nat.le_of_ble_eq_true rfl)).trans ?_
  exact ite_congr (by simp [a_rcv, show m_recv 352 = 25 from by decide +kernel]) (fun _ => rfl) (fun _ => rfl)
theorem B_X11_isWord_40 {k : Nat → Nat × Nat} {u : Nat → Nat → Int} {g : Nat → Nat → Nat} {t : Nat × Nat × Nat} {r0 : Nat} {r1 : Nat} {x2 : Int} {y0 : Int} {y1 : Int} : a_X 186 40 [a_r (r0), a_r (r1), a_i (x2)] [a_i (y1), a_i (y0)] (k, u, g, t) = if (y0 : Int) ≥ (y1 : Int) then some (.inl (some (a_i (1))), (k, u, g, t)) else if (k r0).1 = 11 then if (k r0).1 = 11 then (a_m 179 [a_r (r0), a_i (wr ((u r0 12) + x2))] (k, u, g, t)).bind (a_back 186 50 3 [a_r (r0), a_r (r1), a_i (x2)] []) else none else none := by
  refine (X_ic_ge (m := 186) (pc := 40) (off := 29) (tg := 69) (by decide +kernel) (by decide +kernel)).trans ?_
  refine ite_congr rfl (fun _ => ?_) (fun _ => ?_)
  · refine (X_iconst (m := 186) (pc := 69) (n := 1) (by decide +kernel) ).trans ?_
    exact X_ireturn (m := 186) (pc := 70) (f := 2) (by decide +kernel) (by decide +kernel) rfl
  · refine (X_aload_n (m := 186) (pc := 43) (n := 0) (by decide +kernel) rfl).trans ?_
    refine (X_aload_n (m := 186) (pc := 44) (n := 0) (by decide +kernel) rfl).trans ?_
    refine (X_getI (m := 186) (pc := 45) (n := 102) (c := 11) (q := 12) (ty := 1) (fi := false) (by decide +kernel) (by decide +kernel) (by decide +kernel)).trans ?_
    refine ite_congr rfl (fun _ => ?_) (fun _ => rfl)
    refine (X_iload_n (m := 186) (pc := 48) (n := 2) (by decide +kernel) rfl).trans ?_
    refine (X_iadd (m := 186) (pc := 49)  (by decide +kernel) ).trans ?_
    refine (X_call_vi (m := 186) (pc := 50) (q := 98) (y := 179) (n := 2) (as := [a_r (r0), a_i (wr ((u r0 12) + x2))]) (rest := []) (by decide +kernel) (by decide +kernel) (by decide +kernel) (by decide +kernel) rfl rfl (Nat.le_of_ble_eq_true rfl) (Nat.le_of_ble_eq_true rfl) rfl (by rw [show m_maxL 179 = 2 from by decide +kernel]; exact Nat.le_of_ble_eq_true rfl)).trans ?_
    exact ite_congr (by simp [a_rcv, show m_recv 179 = 11 from by decide +kernel]) (fun _ => rfl) (fun _ => rfl)
theorem B_X11_isWord_53 {k : Nat → Nat × Nat} {u : Nat → Nat → Int} {g : Nat → Nat → Nat} {t : Nat × Nat × Nat} {r0 : Nat} {r1 : Nat} {x2 : Int} {y0 : Int} : a_X 186 53 [a_r (r0), a_r (r1), a_i (x2)] [a_i (y0)] (k, u, g, t) = if (k r1).1 = 25 then (a_m 353 [a_r (r1), a_i (x2)] (k, u, g, t)).bind (a_back 186 55 3 [a_r (r0), a_r (r1), a_i (x2)] [a_i (y0)]) else none := by
  refine (X_aload_n (m := 186) (pc := 53) (n := 1) (by decide +kernel) rfl).trans ?_
  refine (X_iload_n (m := 186) (pc := 54) (n := 2) (by decide +kernel) rfl).trans ?_
  refine (X_call_vi (m := 186) (pc := 55) (q := 135) (y := 353) (n := 2) (as := [a_r (r1), a_i (x2)]) (rest := [a_i (y0)]) (by decide +kernel) (by decide +kernel) (by decide +kernel) (by decide +kernel) rfl rfl (Nat.le_of_ble_eq_true rfl) (Nat.le_of_ble_eq_true rfl) rfl (by rw [show m_maxL 353 = 2 from by decide +kernel]; exact Nat.le_of_ble_eq_true rfl)).trans ?_
  exact ite_congr (by simp [a_rcv, show m_recv 353 = 25 from by decide +kernel]) (fun _ => rfl) (fun _ => rfl)
theorem B_X11_isWord_58 {k : Nat → Nat × Nat} {u : Nat → Nat → Int} {g : Nat → Nat → Nat} {t : Nat × Nat × Nat} {r0 : Nat} {r1 : Nat} {x2 : Int} {y0 : Int} {y1 : Int} : a_X 186 58 [a_r (r0), a_r (r1), a_i (x2)] [a_i (y1), a_i (y0)] (k, u, g, t) = if (y0 : Int) = (y1 : Int) then a_X 186 35 [a_r (r0), a_r (r1), a_i (wr (x2 + 1))] [] (k, u, g, t) else some (.inl (some (a_i (0))), (k, u, g, t)) := by
  refine (X_ic_eq (m := 186) (pc := 58) (off := 5) (tg := 63) (by decide +kernel) (by decide +kernel)).trans ?_
  refine ite_congr rfl (fun _ => ?_) (fun _ => ?_)
  · refine (X_iinc (m := 186) (pc := 63) (n := 2) (c := 1) (by decide +kernel) rfl rfl (Nat.le_of_ble_eq_true rfl) rfl).trans ?_
    refine (X_goto (m := 186) (pc := 66) (off := -31) (tg := 35) (by decide +kernel) (by decide +kernel)).trans ?_
    rfl
  · refine (X_iconst (m := 186) (pc := 61) (n := 0) (by decide +kernel) ).trans ?_
    exact X_ireturn (m := 186) (pc := 62) (f := 2) (by decide +kernel) (by decide +kernel) rfl
theorem E_X11_takes {σ : AS} {r0 : Nat} {x1 : Int} {x2 : Int} : a_m 187 [a_r (r0), a_i (x1), a_i (x2)] σ = a_X 187 0 [a_r (r0), a_i (x1), a_i (x2), a_x false] [] σ := a_m_eq (by rw [a_entry, show m_maxL 187 = 4 from by decide +kernel]; rfl)
theorem B_X11_takes_0 {k : Nat → Nat × Nat} {u : Nat → Nat → Int} {g : Nat → Nat → Nat} {t : Nat × Nat × Nat} {r0 : Nat} {x1 : Int} {x2 : Int} {v3 : AV} : a_X 187 0 [a_r (r0), a_i (x1), a_i (x2), v3] [] (k, u, g, t) = if (k r0).1 = 11 then if (u r0 13 : Int) = (2 : Int) then if (k r0).1 = 11 then (a_m 155 [a_l (u r0 14), a_l (x1), a_l (x2)] (k, u, g, t)).bind (a_back 187 25 3 [a_r (r0), a_i (x1), a_i (x2), v3] []) else none else if (k r0).1 = 11 then (a_m 183 [a_r (r0), a_i (1)] (k, u, g, t)).bind (a_back 187 10 3 [a_r (r0), a_i (x1), a_i (x2), v3] []) else none else none := by
  refine (X_aload_n (m := 187) (pc := 0) (n := 0) (by decide +kernel) rfl).trans ?_
  refine (X_getI (m := 187) (pc := 1) (n := 105) (c := 11) (q := 13) (ty := 1) (fi := false) (by decide +kernel) (by decide +kernel) (by decide +kernel)).trans ?_
  refine ite_congr rfl (fun _ => ?_) (fun _ => rfl)
  refine (X_iconst (m := 187) (pc := 4) (n := 2) (by decide +kernel) ).trans ?_
  refine (X_ic_eq (m := 187) (pc := 5) (off := 11) (tg := 16) (by decide +kernel) (by decide +kernel)).trans ?_
  refine ite_congr rfl (fun _ => ?_) (fun _ => ?_)
  · refine (X_aload_n (m := 187) (pc := 16) (n := 0) (by decide +kernel) rfl).trans ?_
    refine (X_getI (m := 187) (pc := 17) (n := 114) (c := 11) (q := 14) (ty := 1) (fi := false) (by decide +kernel) (by decide +kernel) (by decide +kernel)).trans ?_
    refine ite_congr rfl (fun _ => ?_) (fun _ => rfl)
    refine (X_i2l (m := 187) (pc := 20)  (by decide +kernel) ).trans ?_
    refine (X_iload_n (m := 187) (pc := 21) (n := 1) (by decide +kernel) rfl).trans ?_
    refine (X_i2l (m := 187) (pc := 22)  (by decide +kernel) ).trans ?_
    refine (X_iload_n (m := 187) (pc := 23) (n := 2) (by decide +kernel) rfl).trans ?_
    refine (X_i2l (m := 187) (pc := 24)  (by decide +kernel) ).trans ?_
    refine (X_call_st (m := 187) (pc := 25) (q := 61) (y := 155) (n := 3) (as := [a_l (u r0 14), a_l (x1), a_l (x2)]) (rest := []) (by decide +kernel) (by decide +kernel) (by decide +kernel) (by decide +kernel) rfl rfl (Nat.le_of_ble_eq_true rfl) (Nat.le_of_ble_eq_true rfl) rfl (by rw [show m_maxL 155 = 6 from by decide +kernel]; exact Nat.le_of_ble_eq_true rfl)).trans ?_
    exact if_pos rfl
  · refine (X_aload_n (m := 187) (pc := 8) (n := 0) (by decide +kernel) rfl).trans ?_
    refine (X_iconst (m := 187) (pc := 9) (n := 1) (by decide +kernel) ).trans ?_
    refine (X_call_vi (m := 187) (pc := 10) (q := 123) (y := 183) (n := 2) (as := [a_r (r0), a_i (1)]) (rest := []) (by decide +kernel) (by decide +kernel) (by decide +kernel) (by decide +kernel) rfl rfl (Nat.le_of_ble_eq_true rfl) (Nat.le_of_ble_eq_true rfl) rfl (by rw [show m_maxL 183 = 2 from by decide +kernel]; exact Nat.le_of_ble_eq_true rfl)).trans ?_
    exact ite_congr (by simp [a_rcv, show m_recv 183 = 11 from by decide +kernel]) (fun _ => rfl) (fun _ => rfl)
theorem B_X11_takes_28 {k : Nat → Nat × Nat} {u : Nat → Nat → Int} {g : Nat → Nat → Nat} {t : Nat × Nat × Nat} {r0 : Nat} {x1 : Int} {x2 : Int} {v3 : AV} {y0 : Int} : a_X 187 28 [a_r (r0), a_i (x1), a_i (x2), v3] [a_i (y0)] (k, u, g, t) = if (y0 : Int) ≠ 0 then if (k r0).1 = 11 then if (k r0).1 = 11 then (a_m 185 [a_r (r0)] (k, u, g, t)).bind (a_back 187 42 3 [a_r (r0), a_i (x1), a_i (x2), a_i (u r0 14)] []) else none else none else if (k r0).1 = 11 then (a_m 183 [a_r (r0), a_i (2)] (k, u, g, t)).bind (a_back 187 33 3 [a_r (r0), a_i (x1), a_i (x2), v3] []) else none := by
  refine (X_if_ne (m := 187) (pc := 28) (off := 8) (tg := 36) (by decide +kernel) (by decide +kernel)).trans ?_
  refine ite_congr rfl (fun _ => ?_) (fun _ => ?_)
  · refine (X_aload_n (m := 187) (pc := 36) (n := 0) (by decide +kernel) rfl).trans ?_
    refine (X_getI (m := 187) (pc := 37) (n := 114) (c := 11) (q := 14) (ty := 1) (fi := false) (by decide +kernel) (by decide +kernel) (by decide +kernel)).trans ?_
    refine ite_congr rfl (fun _ => ?_) (fun _ => rfl)
    refine (X_istore_n (m := 187) (pc := 40) (n := 3) (by decide +kernel) rfl (Nat.le_of_ble_eq_true rfl) rfl).trans ?_
    refine (X_aload_n (m := 187) (pc := 41) (n := 0) (by decide +kernel) rfl).trans ?_
    refine (X_call_vi (m := 187) (pc := 42) (q := 139) (y := 185) (n := 1) (as := [a_r (r0)]) (rest := []) (by decide +kernel) (by decide +kernel) (by decide +kernel) (by decide +kernel) rfl rfl (Nat.le_of_ble_eq_true rfl) (Nat.le_of_ble_eq_true rfl) rfl (by rw [show m_maxL 185 = 1 from by decide +kernel]; exact Nat.le_of_ble_eq_true rfl)).trans ?_
    exact ite_congr (by simp [a_rcv, show m_recv 185 = 11 from by decide +kernel]) (fun _ => rfl) (fun _ => rfl)
  · refine (X_aload_n (m := 187) (pc := 31) (n := 0) (by decide +kernel) rfl).trans ?_
    refine (X_iconst (m := 187) (pc := 32) (n := 2) (by decide +kernel) ).trans ?_
    refine (X_call_vi (m := 187) (pc := 33) (q := 123) (y := 183) (n := 2) (as := [a_r (r0), a_i (2)]) (rest := []) (by decide +kernel) (by decide +kernel) (by decide +kernel) (by decide +kernel) rfl rfl (Nat.le_of_ble_eq_true rfl) (Nat.le_of_ble_eq_true rfl) rfl (by rw [show m_maxL 183 = 2 from by decide +kernel]; exact Nat.le_of_ble_eq_true rfl)).trans ?_
    exact ite_congr (by simp [a_rcv, show m_recv 183 = 11 from by decide +kernel]) (fun _ => rfl) (fun _ => rfl)
theorem B_X11_takes_13 {k : Nat → Nat × Nat} {u : Nat → Nat → Int} {g : Nat → Nat → Nat} {t : Nat × Nat × Nat} {r0 : Nat} {x1 : Int} {x2 : Int} {v3 : AV} : a_X 187 13 [a_r (r0), a_i (x1), a_i (x2), v3] [] (k, u, g, t) = if (k r0).1 = 11 then if (k r0).1 = 11 then (a_m 185 [a_r (r0)] (k, u, g, t)).bind (a_back 187 42 3 [a_r (r0), a_i (x1), a_i (x2), a_i (u r0 14)] []) else none else none := by
  refine (X_goto (m := 187) (pc := 13) (off := 23) (tg := 36) (by decide +kernel) (by decide +kernel)).trans ?_
  refine (X_aload_n (m := 187) (pc := 36) (n := 0) (by decide +kernel) rfl).trans ?_
  refine (X_getI (m := 187) (pc := 37) (n := 114) (c := 11) (q := 14) (ty := 1) (fi := false) (by decide +kernel) (by decide +kernel) (by decide +kernel)).trans ?_
  refine ite_congr rfl (fun _ => ?_) (fun _ => rfl)
  refine (X_istore_n (m := 187) (pc := 40) (n := 3) (by decide +kernel) rfl (Nat.le_of_ble_eq_true rfl) rfl).trans ?_
  refine (X_aload_n (m := 187) (pc := 41) (n := 0) (by decide +kernel) rfl).trans ?_
  refine (X_call_vi (m := 187) (pc := 42) (q := 139) (y := 185) (n := 1) (as := [a_r (r0)]) (rest := []) (by decide +kernel) (by decide +kernel) (by decide +kernel) (by decide +kernel) rfl rfl (Nat.le_of_ble_eq_true rfl) (Nat.le_of_ble_eq_true rfl) rfl (by rw [show m_maxL 185 = 1 from by decide +kernel]; exact Nat.le_of_ble_eq_true rfl)).trans ?_
  exact ite_congr (by simp [a_rcv, show m_recv 185 = 11 from by decide +kernel]) (fun _ => rfl) (fun _ => rfl)
theorem B_X11_takes_45 {k : Nat → Nat × Nat} {u : Nat → Nat → Int} {g : Nat → Nat → Nat} {t : Nat × Nat × Nat} {r0 : Nat} {x1 : Int} {x2 : Int} {x3 : Int} : a_X 187 45 [a_r (r0), a_i (x1), a_i (x2), a_i (x3)] [] (k, u, g, t) = if (k r0).1 = 11 then if (u r0 15 : Int) = 0 then some (.inl (some (a_i (x3))), (k, u, g, t)) else some (.inl (some (a_i (x1))), (k, u, g, t)) else none := by
  refine (X_aload_n (m := 187) (pc := 45) (n := 0) (by decide +kernel) rfl).trans ?_
  refine (X_getI (m := 187) (pc := 46) (n := 117) (c := 11) (q := 15) (ty := 1) (fi := false) (by decide +kernel) (by decide +kernel) (by decide +kernel)).trans ?_
  refine ite_congr rfl (fun _ => ?_) (fun _ => rfl)
  refine (X_if_eq (m := 187) (pc := 49) (off := 7) (tg := 56) (by decide +kernel) (by decide +kernel)).trans ?_
  refine ite_congr rfl (fun _ => ?_) (fun _ => ?_)
  · refine (X_iload_n (m := 187) (pc := 56) (n := 3) (by decide +kernel) rfl).trans ?_
    exact X_ireturn (m := 187) (pc := 57) (f := 1) (by decide +kernel) (by decide +kernel) rfl
  · refine (X_iload_n (m := 187) (pc := 52) (n := 1) (by decide +kernel) rfl).trans ?_
    refine (X_goto (m := 187) (pc := 53) (off := 4) (tg := 57) (by decide +kernel) (by decide +kernel)).trans ?_
    exact X_ireturn (m := 187) (pc := 57) (f := 1) (by decide +kernel) (by decide +kernel) rfl
theorem B_X11_takes_36 {k : Nat → Nat × Nat} {u : Nat → Nat → Int} {g : Nat → Nat → Nat} {t : Nat × Nat × Nat} {r0 : Nat} {x1 : Int} {x2 : Int} {v3 : AV} : a_X 187 36 [a_r (r0), a_i (x1), a_i (x2), v3] [] (k, u, g, t) = if (k r0).1 = 11 then if (k r0).1 = 11 then (a_m 185 [a_r (r0)] (k, u, g, t)).bind (a_back 187 42 3 [a_r (r0), a_i (x1), a_i (x2), a_i (u r0 14)] []) else none else none := by
  refine (X_aload_n (m := 187) (pc := 36) (n := 0) (by decide +kernel) rfl).trans ?_
  refine (X_getI (m := 187) (pc := 37) (n := 114) (c := 11) (q := 14) (ty := 1) (fi := false) (by decide +kernel) (by decide +kernel) (by decide +kernel)).trans ?_
  refine ite_congr rfl (fun _ => ?_) (fun _ => rfl)
  refine (X_istore_n (m := 187) (pc := 40) (n := 3) (by decide +kernel) rfl (Nat.le_of_ble_eq_true rfl) rfl).trans ?_
  refine (X_aload_n (m := 187) (pc := 41) (n := 0) (by decide +kernel) rfl).trans ?_
  refine (X_call_vi (m := 187) (pc := 42) (q := 139) (y := 185) (n := 1) (as := [a_r (r0)]) (rest := []) (by decide +kernel) (by decide +kernel) (by decide +kernel) (by decide +kernel) rfl rfl (Nat.le_of_ble_eq_true rfl) (Nat.le_of_ble_eq_true rfl) rfl (by rw [show m_maxL 185 = 1 from by decide +kernel]; exact Nat.le_of_ble_eq_true rfl)).trans ?_
  exact ite_congr (by simp [a_rcv, show m_recv 185 = 11 from by decide +kernel]) (fun _ => rfl) (fun _ => rfl)
theorem E_X11_stopLine {σ : AS} {r0 : Nat} : a_m 188 [a_r (r0)] σ = a_X 188 0 [a_r (r0), a_x false, a_x false, a_x false, a_x false, a_x false, a_x false, a_x false] [] σ := a_m_eq (by rw [a_entry, show m_maxL 188 = 8 from by decide +kernel]; rfl)
theorem B_X11_stopLine_0 {k : Nat → Nat × Nat} {u : Nat → Nat → Int} {g : Nat → Nat → Nat} {t : Nat × Nat × Nat} {r0 : Nat} {v1 : AV} {v2 : AV} {v3 : AV} {v4 : AV} {v5 : AV} {v6 : AV} {v7 : AV} : a_X 188 0 [a_r (r0), v1, v2, v3, v4, v5, v6, v7] [] (k, u, g, t) = if (k r0).1 = 11 then if ((k (g r0 2)).1 = 20 ∨ (k (g r0 2)).1 = 24) ∧ 0 ≤ (8 : Int) ∧ (8 : Int) < ((k (g r0 2)).2 : Int) then if (u (g r0 2) (8 : Int).toNat : Int) ≠ (12 : Int) then if (k r0).1 = 11 then (a_m 184 [a_r (r0), a_i (0), a_i (3)] (k, u, g, t)).bind (a_back 188 21 3 [a_r (r0), a_i (u (g r0 2) (8 : Int).toNat), v2, v3, v4, v5, v6, v7] []) else none else if (k r0).1 = 11 then (a_m 184 [a_r (r0), a_i (1), a_i (3)] (k, u, g, t)).bind (a_back 188 21 3 [a_r (r0), a_i (u (g r0 2) (8 : Int).toNat), v2, v3, v4, v5, v6, v7] []) else none else none else none := by
  refine (X_aload_n (m := 188) (pc := 0) (n := 0) (by decide +kernel) rfl).trans ?_
  refine (X_getR (m := 188) (pc := 1) (n := 7) (c := 11) (q := 2) (fi := true) (by decide +kernel) (by decide +kernel)).trans ?_
  refine ite_congr rfl (fun _ => ?_) (fun _ => rfl)
  refine (X_bipush (m := 188) (pc := 4) (n := 8) (by decide +kernel) ).trans ?_
  refine (X_iaload (m := 188) (pc := 6)  (by decide +kernel) ).trans ?_
  refine ite_congr rfl (fun _ => ?_) (fun _ => rfl)
  refine (X_istore_n (m := 188) (pc := 7) (n := 1) (by decide +kernel) rfl (Nat.le_of_ble_eq_true rfl) rfl).trans ?_
  refine (X_aload_n (m := 188) (pc := 8) (n := 0) (by decide +kernel) rfl).trans ?_
  refine (X_iload_n (m := 188) (pc := 9) (n := 1) (by decide +kernel) rfl).trans ?_
  refine (X_bipush (m := 188) (pc := 10) (n := 12) (by decide +kernel) ).trans ?_
  refine (X_ic_ne (m := 188) (pc := 12) (off := 7) (tg := 19) (by decide +kernel) (by decide +kernel)).trans ?_
  refine ite_congr rfl (fun _ => ?_) (fun _ => ?_)
  · refine (X_iconst (m := 188) (pc := 19) (n := 0) (by decide +kernel) ).trans ?_
    refine (X_iconst (m := 188) (pc := 20) (n := 3) (by decide +kernel) ).trans ?_
    refine (X_call_vi (m := 188) (pc := 21) (q := 142) (y := 184) (n := 3) (as := [a_r (r0), a_i (0), a_i (3)]) (rest := []) (by decide +kernel) (by decide +kernel) (by decide +kernel) (by decide +kernel) rfl rfl (Nat.le_of_ble_eq_true rfl) (Nat.le_of_ble_eq_true rfl) rfl (by rw [show m_maxL 184 = 3 from by decide +kernel]; exact Nat.le_of_ble_eq_true rfl)).trans ?_
    exact ite_congr (by simp [a_rcv, show m_recv 184 = 11 from by decide +kernel]) (fun _ => rfl) (fun _ => rfl)
  · refine (X_iconst (m := 188) (pc := 15) (n := 1) (by decide +kernel) ).trans ?_
    refine (X_goto (m := 188) (pc := 16) (off := 4) (tg := 20) (by decide +kernel) (by decide +kernel)).trans ?_
    refine (X_iconst (m := 188) (pc := 20) (n := 3) (by decide +kernel) ).trans ?_
    refine (X_call_vi (m := 188) (pc := 21) (q := 142) (y := 184) (n := 3) (as := [a_r (r0), a_i (1), a_i (3)]) (rest := []) (by decide +kernel) (by decide +kernel) (by decide +kernel) (by decide +kernel) rfl rfl (Nat.le_of_ble_eq_true rfl) (Nat.le_of_ble_eq_true rfl) rfl (by rw [show m_maxL 184 = 3 from by decide +kernel]; exact Nat.le_of_ble_eq_true rfl)).trans ?_
    exact ite_congr (by simp [a_rcv, show m_recv 184 = 11 from by decide +kernel]) (fun _ => rfl) (fun _ => rfl)
theorem B_X11_stopLine_24 {k : Nat → Nat × Nat} {u : Nat → Nat → Int} {g : Nat → Nat → Nat} {t : Nat × Nat × Nat} {r0 : Nat} {x1 : Int} {v2 : AV} {v3 : AV} {v4 : AV} {v5 : AV} {v6 : AV} {v7 : AV} : a_X 188 24 [a_r (r0), a_i (x1), v2, v3, v4, v5, v6, v7] [] (k, u, g, t) = if (k r0).1 = 11 then (a_m 185 [a_r (r0)] (k, u, g, t)).bind (a_back 188 25 3 [a_r (r0), a_i (x1), v2, v3, v4, v5, v6, v7] []) else none := by
  refine (X_aload_n (m := 188) (pc := 24) (n := 0) (by decide +kernel) rfl).trans ?_
  refine (X_call_vi (m := 188) (pc := 25) (q := 139) (y := 185) (n := 1) (as := [a_r (r0)]) (rest := []) (by decide +kernel) (by decide +kernel) (by decide +kernel) (by decide +kernel) rfl rfl (Nat.le_of_ble_eq_true rfl) (Nat.le_of_ble_eq_true rfl) rfl (by rw [show m_maxL 185 = 1 from by decide +kernel]; exact Nat.le_of_ble_eq_true rfl)).trans ?_
  exact ite_congr (by simp [a_rcv, show m_recv 185 = 11 from by decide +kernel]) (fun _ => rfl) (fun _ => rfl)
theorem B_X11_stopLine_28 {k : Nat → Nat × Nat} {u : Nat → Nat → Int} {g : Nat → Nat → Nat} {t : Nat × Nat × Nat} {r0 : Nat} {x1 : Int} {v2 : AV} {v3 : AV} {v4 : AV} {v5 : AV} {v6 : AV} {v7 : AV} : a_X 188 28 [a_r (r0), a_i (x1), v2, v3, v4, v5, v6, v7] [] (k, u, g, t) = if (k r0).1 = 11 then (a_m 187 [a_r (r0), a_i (0), a_i (29)] (k, u, g, t)).bind (a_back 188 32 3 [a_r (r0), a_i (x1), v2, v3, v4, v5, v6, v7] []) else none := by
  refine (X_aload_n (m := 188) (pc := 28) (n := 0) (by decide +kernel) rfl).trans ?_
  refine (X_iconst (m := 188) (pc := 29) (n := 0) (by decide +kernel) ).trans ?_
  refine (X_bipush (m := 188) (pc := 30) (n := 29) (by decide +kernel) ).trans ?_
  refine (X_call_vi (m := 188) (pc := 32) (q := 146) (y := 187) (n := 3) (as := [a_r (r0), a_i (0), a_i (29)]) (rest := []) (by decide +kernel) (by decide +kernel) (by decide +kernel) (by decide +kernel) rfl rfl (Nat.le_of_ble_eq_true rfl) (Nat.le_of_ble_eq_true rfl) rfl (by rw [show m_maxL 187 = 4 from by decide +kernel]; exact Nat.le_of_ble_eq_true rfl)).trans ?_
  exact ite_congr (by simp [a_rcv, show m_recv 187 = 11 from by decide +kernel]) (fun _ => rfl) (fun _ => rfl)
theorem B_X11_stopLine_35 {k : Nat → Nat × Nat} {u : Nat → Nat → Int} {g : Nat → Nat → Nat} {t : Nat × Nat × Nat} {r0 : Nat} {x1 : Int} {v2 : AV} {v3 : AV} {v4 : AV} {v5 : AV} {v6 : AV} {v7 : AV} {y0 : Int} : a_X 188 35 [a_r (r0), a_i (x1), v2, v3, v4, v5, v6, v7] [a_i (y0)] (k, u, g, t) = if (k r0).1 = 11 then (a_m 187 [a_r (r0), a_i (0), a_i (6)] (k, u, g, t)).bind (a_back 188 40 3 [a_r (r0), a_i (x1), a_i (y0), v3, v4, v5, v6, v7] []) else none := by
  refine (X_istore_n (m := 188) (pc := 35) (n := 2) (by decide +kernel) rfl (Nat.le_of_ble_eq_true rfl) rfl).trans ?_
  refine (X_aload_n (m := 188) (pc := 36) (n := 0) (by decide +kernel) rfl).trans ?_
  refine (X_iconst (m := 188) (pc := 37) (n := 0) (by decide +kernel) ).trans ?_
  refine (X_bipush (m := 188) (pc := 38) (n := 6) (by decide +kernel) ).trans ?_
  refine (X_call_vi (m := 188) (pc := 40) (q := 146) (y := 187) (n := 3) (as := [a_r (r0), a_i (0), a_i (6)]) (rest := []) (by decide +kernel) (by decide +kernel) (by decide +kernel) (by decide +kernel) rfl rfl (Nat.le_of_ble_eq_true rfl) (Nat.le_of_ble_eq_true rfl) rfl (by rw [show m_maxL 187 = 4 from by decide +kernel]; exact Nat.le_of_ble_eq_true rfl)).trans ?_
  exact ite_congr (by simp [a_rcv, show m_recv 187 = 11 from by decide +kernel]) (fun _ => rfl) (fun _ => rfl)
theorem B_X11_stopLine_43 {k : Nat → Nat × Nat} {u : Nat → Nat → Int} {g : Nat → Nat → Nat} {t : Nat × Nat × Nat} {r0 : Nat} {x1 : Int} {x2 : Int} {v3 : AV} {v4 : AV} {v5 : AV} {v6 : AV} {v7 : AV} {y0 : Int} : a_X 188 43 [a_r (r0), a_i (x1), a_i (x2), v3, v4, v5, v6, v7] [a_i (y0)] (k, u, g, t) = if (k r0).1 = 11 then (a_m 187 [a_r (r0), a_i (0), a_i (1438)] (k, u, g, t)).bind (a_back 188 49 3 [a_r (r0), a_i (x1), a_i (x2), a_i (y0), v4, v5, v6, v7] []) else none := by
  refine (X_istore_n (m := 188) (pc := 43) (n := 3) (by decide +kernel) rfl (Nat.le_of_ble_eq_true rfl) rfl).trans ?_
  refine (X_aload_n (m := 188) (pc := 44) (n := 0) (by decide +kernel) rfl).trans ?_
  refine (X_iconst (m := 188) (pc := 45) (n := 0) (by decide +kernel) ).trans ?_
  refine (X_sipush (m := 188) (pc := 46) (n := 1438) (by decide +kernel) ).trans ?_
  refine (X_call_vi (m := 188) (pc := 49) (q := 146) (y := 187) (n := 3) (as := [a_r (r0), a_i (0), a_i (1438)]) (rest := []) (by decide +kernel) (by decide +kernel) (by decide +kernel) (by decide +kernel) rfl rfl (Nat.le_of_ble_eq_true rfl) (Nat.le_of_ble_eq_true rfl) rfl (by rw [show m_maxL 187 = 4 from by decide +kernel]; exact Nat.le_of_ble_eq_true rfl)).trans ?_
  exact ite_congr (by simp [a_rcv, show m_recv 187 = 11 from by decide +kernel]) (fun _ => rfl) (fun _ => rfl)
theorem B_X11_stopLine_52 {k : Nat → Nat × Nat} {u : Nat → Nat → Int} {g : Nat → Nat → Nat} {t : Nat × Nat × Nat} {r0 : Nat} {x1 : Int} {x2 : Int} {x3 : Int} {v4 : AV} {v5 : AV} {v6 : AV} {v7 : AV} {y0 : Int} : a_X 188 52 [a_r (r0), a_i (x1), a_i (x2), a_i (x3), v4, v5, v6, v7] [a_i (y0)] (k, u, g, t) = if (k r0).1 = 11 then (a_m 187 [a_r (r0), a_i (wr (y0 + 1)), a_i (1439)] (k, u, g, t)).bind (a_back 188 62 3 [a_r (r0), a_i (x1), a_i (x2), a_i (x3), a_i (y0), v5, v6, v7] []) else none := by
  refine (X_istore (m := 188) (pc := 52) (n := 4) (by decide +kernel) rfl (Nat.le_of_ble_eq_true rfl) rfl).trans ?_
  refine (X_aload_n (m := 188) (pc := 54) (n := 0) (by decide +kernel) rfl).trans ?_
  refine (X_iload (m := 188) (pc := 55) (n := 4) (by decide +kernel) rfl).trans ?_
  refine (X_iconst (m := 188) (pc := 57) (n := 1) (by decide +kernel) ).trans ?_
  refine (X_iadd (m := 188) (pc := 58)  (by decide +kernel) ).trans ?_
  refine (X_sipush (m := 188) (pc := 59) (n := 1439) (by decide +kernel) ).trans ?_
  refine (X_call_vi (m := 188) (pc := 62) (q := 146) (y := 187) (n := 3) (as := [a_r (r0), a_i (wr (y0 + 1)), a_i (1439)]) (rest := []) (by decide +kernel) (by decide +kernel) (by decide +kernel) (by decide +kernel) rfl rfl (Nat.le_of_ble_eq_true rfl) (Nat.le_of_ble_eq_true rfl) rfl (by rw [show m_maxL 187 = 4 from by decide +kernel]; exact Nat.le_of_ble_eq_true rfl)).trans ?_
  exact ite_congr (by simp [a_rcv, show m_recv 187 = 11 from by decide +kernel]) (fun _ => rfl) (fun _ => rfl)
theorem B_X11_stopLine_65 {k : Nat → Nat × Nat} {u : Nat → Nat → Int} {g : Nat → Nat → Nat} {t : Nat × Nat × Nat} {r0 : Nat} {x1 : Int} {x2 : Int} {x3 : Int} {x4 : Int} {v5 : AV} {v6 : AV} {v7 : AV} {y0 : Int} : a_X 188 65 [a_r (r0), a_i (x1), a_i (x2), a_i (x3), a_i (x4), v5, v6, v7] [a_i (y0)] (k, u, g, t) = if (k r0).1 = 11 then if (u r0 15 : Int) = 0 then a_X 188 78 [a_r (r0), a_i (x1), a_i (x2), a_i (x3), a_i (x4), a_i (y0), a_i (-1), v7] [] (k, u, g, t) else some (.inl none, (k, u, g, t)) else none := by
  refine (X_istore (m := 188) (pc := 65) (n := 5) (by decide +kernel) rfl (Nat.le_of_ble_eq_true rfl) rfl).trans ?_
  refine (X_aload_n (m := 188) (pc := 67) (n := 0) (by decide +kernel) rfl).trans ?_
  refine (X_getI (m := 188) (pc := 68) (n := 117) (c := 11) (q := 15) (ty := 1) (fi := false) (by decide +kernel) (by decide +kernel) (by decide +kernel)).trans ?_
  refine ite_congr rfl (fun _ => ?_) (fun _ => rfl)
  refine (X_if_eq (m := 188) (pc := 71) (off := 4) (tg := 75) (by decide +kernel) (by decide +kernel)).trans ?_
  refine ite_congr rfl (fun _ => ?_) (fun _ => ?_)
  · refine (X_iconst (m := 188) (pc := 75) (n := -1) (by decide +kernel) ).trans ?_
    refine (X_istore (m := 188) (pc := 76) (n := 6) (by decide +kernel) rfl (Nat.le_of_ble_eq_true rfl) rfl).trans ?_
    rfl
  · exact X_return (m := 188) (pc := 74) (by decide +kernel) (by decide +kernel)
theorem B_X11_stopLine_78 {k : Nat → Nat × Nat} {u : Nat → Nat → Int} {g : Nat → Nat → Nat} {t : Nat × Nat × Nat} {r0 : Nat} {x1 : Int} {x2 : Int} {x3 : Int} {x4 : Int} {x5 : Int} {x6 : Int} {v7 : AV} : a_X 188 78 [a_r (r0), a_i (x1), a_i (x2), a_i (x3), a_i (x4), a_i (x5), a_i (x6), v7] [] (k, u, g, t) = if (x6 : Int) ≥ (6 : Int) then if (k r0).1 = 11 then if ((k (g r0 2)).1 = 20 ∨ (k (g r0 2)).1 = 24) ∧ 0 ≤ (8 : Int) ∧ (8 : Int) < ((k (g r0 2)).2 : Int) then if (k (g r0 2)).1 = 20 ∧ 0 ≤ (8 : Int) ∧ (8 : Int) < ((k (g r0 2)).2 : Int) then some (.inl none, (k, (upm u (g r0 2) (8 : Int).toNat (wr ((u (g r0 2) (8 : Int).toNat) + 1))), g, t)) else none else none else none else (a_m 164 [a_i (x6), a_i (x1)] (k, u, g, t)).bind (a_back 188 88 3 [a_r (r0), a_i (x1), a_i (x2), a_i (x3), a_i (x4), a_i (x5), a_i (x6), v7] []) := by
  refine (X_iload (m := 188) (pc := 78) (n := 6) (by decide +kernel) rfl).trans ?_
  refine (X_bipush (m := 188) (pc := 80) (n := 6) (by decide +kernel) ).trans ?_
  refine (X_ic_ge (m := 188) (pc := 82) (off := 59) (tg := 141) (by decide +kernel) (by decide +kernel)).trans ?_
  refine ite_congr rfl (fun _ => ?_) (fun _ => ?_)
  · refine (X_aload_n (m := 188) (pc := 141) (n := 0) (by decide +kernel) rfl).trans ?_
    refine (X_getR (m := 188) (pc := 142) (n := 7) (c := 11) (q := 2) (fi := true) (by decide +kernel) (by decide +kernel)).trans ?_
    refine ite_congr rfl (fun _ => ?_) (fun _ => rfl)
    refine (X_bipush (m := 188) (pc := 145) (n := 8) (by decide +kernel) ).trans ?_
    refine (X_dup2 (m := 188) (pc := 147)  (by decide +kernel) rfl rfl rfl rfl).trans ?_
    refine (X_iaload (m := 188) (pc := 148)  (by decide +kernel) ).trans ?_
    refine ite_congr rfl (fun _ => ?_) (fun _ => rfl)
    refine (X_iconst (m := 188) (pc := 149) (n := 1) (by decide +kernel) ).trans ?_
    refine (X_iadd (m := 188) (pc := 150)  (by decide +kernel) ).trans ?_
    refine (X_iastore (m := 188) (pc := 151)  (by decide +kernel) ).trans ?_
    refine ite_congr rfl (fun _ => ?_) (fun _ => rfl)
    exact X_return (m := 188) (pc := 152) (by decide +kernel) (by decide +kernel)
  · refine (X_iload (m := 188) (pc := 85) (n := 6) (by decide +kernel) rfl).trans ?_
    refine (X_iload_n (m := 188) (pc := 87) (n := 1) (by decide +kernel) rfl).trans ?_
    refine (X_call_st (m := 188) (pc := 88) (q := 71) (y := 164) (n := 2) (as := [a_i (x6), a_i (x1)]) (rest := []) (by decide +kernel) (by decide +kernel) (by decide +kernel) (by decide +kernel) rfl rfl (Nat.le_of_ble_eq_true rfl) (Nat.le_of_ble_eq_true rfl) rfl (by rw [show m_maxL 164 = 2 from by decide +kernel]; exact Nat.le_of_ble_eq_true rfl)).trans ?_
    exact if_pos rfl
theorem B_X11_stopLine_91 {k : Nat → Nat × Nat} {u : Nat → Nat → Int} {g : Nat → Nat → Nat} {t : Nat × Nat × Nat} {r0 : Nat} {x1 : Int} {x2 : Int} {x3 : Int} {x4 : Int} {x5 : Int} {x6 : Int} {v7 : AV} {y0 : Int} : a_X 188 91 [a_r (r0), a_i (x1), a_i (x2), a_i (x3), a_i (x4), a_i (x5), a_i (x6), v7] [a_i (y0)] (k, u, g, t) = if (k r0).1 = 11 then if (k (g r0 2)).1 = 20 ∧ 0 ≤ (wr (y0 + 0) : Int) ∧ (wr (y0 + 0) : Int) < ((k (g r0 2)).2 : Int) then if (k r0).1 = 11 then if (k (g r0 2)).1 = 20 ∧ 0 ≤ (wr (y0 + 1) : Int) ∧ (wr (y0 + 1) : Int) < ((k (g r0 2)).2 : Int) then if (k r0).1 = 11 then if (k (g r0 2)).1 = 20 ∧ 0 ≤ (wr (y0 + 2) : Int) ∧ (wr (y0 + 2) : Int) < ((k (g r0 2)).2 : Int) then if (k r0).1 = 11 then if (k (g r0 2)).1 = 20 ∧ 0 ≤ (wr (y0 + 3) : Int) ∧ (wr (y0 + 3) : Int) < ((k (g r0 2)).2 : Int) then a_X 188 78 [a_r (r0), a_i (x1), a_i (x2), a_i (x3), a_i (x4), a_i (x5), a_i (wr (x6 + 1)), a_i (y0)] [] (k, (upm (upm (upm (upm u (g r0 2) (wr (y0 + 0) : Int).toNat x2) (g r0 2) (wr (y0 + 1) : Int).toNat x3) (g r0 2) (wr (y0 + 2) : Int).toNat x4) (g r0 2) (wr (y0 + 3) : Int).toNat x5), g, t) else none else none else none else none else none else none else none else none := by
  refine (X_istore (m := 188) (pc := 91) (n := 7) (by decide +kernel) rfl (Nat.le_of_ble_eq_true rfl) rfl).trans ?_
  refine (X_aload_n (m := 188) (pc := 93) (n := 0) (by decide +kernel) rfl).trans ?_
  refine (X_getR (m := 188) (pc := 94) (n := 7) (c := 11) (q := 2) (fi := true) (by decide +kernel) (by decide +kernel)).trans ?_
  refine ite_congr rfl (fun _ => ?_) (fun _ => rfl)
  refine (X_iload (m := 188) (pc := 97) (n := 7) (by decide +kernel) rfl).trans ?_
  refine (X_iconst (m := 188) (pc := 99) (n := 0) (by decide +kernel) ).trans ?_
  refine (X_iadd (m := 188) (pc := 100)  (by decide +kernel) ).trans ?_
  refine (X_iload_n (m := 188) (pc := 101) (n := 2) (by decide +kernel) rfl).trans ?_
  refine (X_iastore (m := 188) (pc := 102)  (by decide +kernel) ).trans ?_
  refine ite_congr rfl (fun _ => ?_) (fun _ => rfl)
  refine (X_aload_n (m := 188) (pc := 103) (n := 0) (by decide +kernel) rfl).trans ?_
  refine (X_getR (m := 188) (pc := 104) (n := 7) (c := 11) (q := 2) (fi := true) (by decide +kernel) (by decide +kernel)).trans ?_
  refine ite_congr rfl (fun _ => ?_) (fun _ => rfl)
  refine (X_iload (m := 188) (pc := 107) (n := 7) (by decide +kernel) rfl).trans ?_
  refine (X_iconst (m := 188) (pc := 109) (n := 1) (by decide +kernel) ).trans ?_
  refine (X_iadd (m := 188) (pc := 110)  (by decide +kernel) ).trans ?_
  refine (X_iload_n (m := 188) (pc := 111) (n := 3) (by decide +kernel) rfl).trans ?_
  refine (X_iastore (m := 188) (pc := 112)  (by decide +kernel) ).trans ?_
  refine ite_congr rfl (fun _ => ?_) (fun _ => rfl)
  refine (X_aload_n (m := 188) (pc := 113) (n := 0) (by decide +kernel) rfl).trans ?_
  refine (X_getR (m := 188) (pc := 114) (n := 7) (c := 11) (q := 2) (fi := true) (by decide +kernel) (by decide +kernel)).trans ?_
  refine ite_congr rfl (fun _ => ?_) (fun _ => rfl)
  refine (X_iload (m := 188) (pc := 117) (n := 7) (by decide +kernel) rfl).trans ?_
  refine (X_iconst (m := 188) (pc := 119) (n := 2) (by decide +kernel) ).trans ?_
  refine (X_iadd (m := 188) (pc := 120)  (by decide +kernel) ).trans ?_
  refine (X_iload (m := 188) (pc := 121) (n := 4) (by decide +kernel) rfl).trans ?_
  refine (X_iastore (m := 188) (pc := 123)  (by decide +kernel) ).trans ?_
  refine ite_congr rfl (fun _ => ?_) (fun _ => rfl)
  refine (X_aload_n (m := 188) (pc := 124) (n := 0) (by decide +kernel) rfl).trans ?_
  refine (X_getR (m := 188) (pc := 125) (n := 7) (c := 11) (q := 2) (fi := true) (by decide +kernel) (by decide +kernel)).trans ?_
  refine ite_congr rfl (fun _ => ?_) (fun _ => rfl)
  refine (X_iload (m := 188) (pc := 128) (n := 7) (by decide +kernel) rfl).trans ?_
  refine (X_iconst (m := 188) (pc := 130) (n := 3) (by decide +kernel) ).trans ?_
  refine (X_iadd (m := 188) (pc := 131)  (by decide +kernel) ).trans ?_
  refine (X_iload (m := 188) (pc := 132) (n := 5) (by decide +kernel) rfl).trans ?_
  refine (X_iastore (m := 188) (pc := 134)  (by decide +kernel) ).trans ?_
  refine ite_congr rfl (fun _ => ?_) (fun _ => rfl)
  refine (X_iinc (m := 188) (pc := 135) (n := 6) (c := 1) (by decide +kernel) rfl rfl (Nat.le_of_ble_eq_true rfl) rfl).trans ?_
  refine (X_goto (m := 188) (pc := 138) (off := -60) (tg := 78) (by decide +kernel) (by decide +kernel)).trans ?_
  rfl
theorem E_X11_hearsLine {σ : AS} {r0 : Nat} : a_m 189 [a_r (r0)] σ = a_X 189 0 [a_r (r0), a_x false, a_x false, a_x false, a_x false, a_x false] [] σ := a_m_eq (by rw [a_entry, show m_maxL 189 = 6 from by decide +kernel]; rfl)
theorem B_X11_hearsLine_0 {k : Nat → Nat × Nat} {u : Nat → Nat → Int} {g : Nat → Nat → Nat} {t : Nat × Nat × Nat} {r0 : Nat} {v1 : AV} {v2 : AV} {v3 : AV} {v4 : AV} {v5 : AV} : a_X 189 0 [a_r (r0), v1, v2, v3, v4, v5] [] (k, u, g, t) = if (k r0).1 = 11 then if ((k (g r0 2)).1 = 20 ∨ (k (g r0 2)).1 = 24) ∧ 0 ≤ (3 : Int) ∧ (3 : Int) < ((k (g r0 2)).2 : Int) then if (u (g r0 2) (3 : Int).toNat : Int) ≠ (6 : Int) then if (k r0).1 = 11 then (a_m 184 [a_r (r0), a_i (0), a_i (3)] (k, u, g, t)).bind (a_back 189 20 3 [a_r (r0), a_i (u (g r0 2) (3 : Int).toNat), v2, v3, v4, v5] []) else none else if (k r0).1 = 11 then (a_m 184 [a_r (r0), a_i (1), a_i (3)] (k, u, g, t)).bind (a_back 189 20 3 [a_r (r0), a_i (u (g r0 2) (3 : Int).toNat), v2, v3, v4, v5] []) else none else none else none := by
  refine (X_aload_n (m := 189) (pc := 0) (n := 0) (by decide +kernel) rfl).trans ?_
  refine (X_getR (m := 189) (pc := 1) (n := 7) (c := 11) (q := 2) (fi := true) (by decide +kernel) (by decide +kernel)).trans ?_
  refine ite_congr rfl (fun _ => ?_) (fun _ => rfl)
  refine (X_iconst (m := 189) (pc := 4) (n := 3) (by decide +kernel) ).trans ?_
  refine (X_iaload (m := 189) (pc := 5)  (by decide +kernel) ).trans ?_
  refine ite_congr rfl (fun _ => ?_) (fun _ => rfl)
  refine (X_istore_n (m := 189) (pc := 6) (n := 1) (by decide +kernel) rfl (Nat.le_of_ble_eq_true rfl) rfl).trans ?_
  refine (X_aload_n (m := 189) (pc := 7) (n := 0) (by decide +kernel) rfl).trans ?_
  refine (X_iload_n (m := 189) (pc := 8) (n := 1) (by decide +kernel) rfl).trans ?_
  refine (X_bipush (m := 189) (pc := 9) (n := 6) (by decide +kernel) ).trans ?_
  refine (X_ic_ne (m := 189) (pc := 11) (off := 7) (tg := 18) (by decide +kernel) (by decide +kernel)).trans ?_
  refine ite_congr rfl (fun _ => ?_) (fun _ => ?_)
  · refine (X_iconst (m := 189) (pc := 18) (n := 0) (by decide +kernel) ).trans ?_
    refine (X_iconst (m := 189) (pc := 19) (n := 3) (by decide +kernel) ).trans ?_
    refine (X_call_vi (m := 189) (pc := 20) (q := 142) (y := 184) (n := 3) (as := [a_r (r0), a_i (0), a_i (3)]) (rest := []) (by decide +kernel) (by decide +kernel) (by decide +kernel) (by decide +kernel) rfl rfl (Nat.le_of_ble_eq_true rfl) (Nat.le_of_ble_eq_true rfl) rfl (by rw [show m_maxL 184 = 3 from by decide +kernel]; exact Nat.le_of_ble_eq_true rfl)).trans ?_
    exact ite_congr (by simp [a_rcv, show m_recv 184 = 11 from by decide +kernel]) (fun _ => rfl) (fun _ => rfl)
  · refine (X_iconst (m := 189) (pc := 14) (n := 1) (by decide +kernel) ).trans ?_
    refine (X_goto (m := 189) (pc := 15) (off := 4) (tg := 19) (by decide +kernel) (by decide +kernel)).trans ?_
    refine (X_iconst (m := 189) (pc := 19) (n := 3) (by decide +kernel) ).trans ?_
    refine (X_call_vi (m := 189) (pc := 20) (q := 142) (y := 184) (n := 3) (as := [a_r (r0), a_i (1), a_i (3)]) (rest := []) (by decide +kernel) (by decide +kernel) (by decide +kernel) (by decide +kernel) rfl rfl (Nat.le_of_ble_eq_true rfl) (Nat.le_of_ble_eq_true rfl) rfl (by rw [show m_maxL 184 = 3 from by decide +kernel]; exact Nat.le_of_ble_eq_true rfl)).trans ?_
    exact ite_congr (by simp [a_rcv, show m_recv 184 = 11 from by decide +kernel]) (fun _ => rfl) (fun _ => rfl)
theorem B_X11_hearsLine_23 {k : Nat → Nat × Nat} {u : Nat → Nat → Int} {g : Nat → Nat → Nat} {t : Nat × Nat × Nat} {r0 : Nat} {x1 : Int} {v2 : AV} {v3 : AV} {v4 : AV} {v5 : AV} : a_X 189 23 [a_r (r0), a_i (x1), v2, v3, v4, v5] [] (k, u, g, t) = if (k r0).1 = 11 then (a_m 185 [a_r (r0)] (k, u, g, t)).bind (a_back 189 24 3 [a_r (r0), a_i (x1), v2, v3, v4, v5] []) else none := by
  refine (X_aload_n (m := 189) (pc := 23) (n := 0) (by decide +kernel) rfl).trans ?_
  refine (X_call_vi (m := 189) (pc := 24) (q := 139) (y := 185) (n := 1) (as := [a_r (r0)]) (rest := []) (by decide +kernel) (by decide +kernel) (by decide +kernel) (by decide +kernel) rfl rfl (Nat.le_of_ble_eq_true rfl) (Nat.le_of_ble_eq_true rfl) rfl (by rw [show m_maxL 185 = 1 from by decide +kernel]; exact Nat.le_of_ble_eq_true rfl)).trans ?_
  exact ite_congr (by simp [a_rcv, show m_recv 185 = 11 from by decide +kernel]) (fun _ => rfl) (fun _ => rfl)
theorem B_X11_hearsLine_27 {k : Nat → Nat × Nat} {u : Nat → Nat → Int} {g : Nat → Nat → Nat} {t : Nat × Nat × Nat} {r0 : Nat} {x1 : Int} {v2 : AV} {v3 : AV} {v4 : AV} {v5 : AV} : a_X 189 27 [a_r (r0), a_i (x1), v2, v3, v4, v5] [] (k, u, g, t) = if (k r0).1 = 11 then (a_m 187 [a_r (r0), a_i (0), a_i (9)] (k, u, g, t)).bind (a_back 189 31 3 [a_r (r0), a_i (x1), v2, v3, v4, v5] []) else none := by
  refine (X_aload_n (m := 189) (pc := 27) (n := 0) (by decide +kernel) rfl).trans ?_
  refine (X_iconst (m := 189) (pc := 28) (n := 0) (by decide +kernel) ).trans ?_
  refine (X_bipush (m := 189) (pc := 29) (n := 9) (by decide +kernel) ).trans ?_
  refine (X_call_vi (m := 189) (pc := 31) (q := 146) (y := 187) (n := 3) (as := [a_r (r0), a_i (0), a_i (9)]) (rest := []) (by decide +kernel) (by decide +kernel) (by decide +kernel) (by decide +kernel) rfl rfl (Nat.le_of_ble_eq_true rfl) (Nat.le_of_ble_eq_true rfl) rfl (by rw [show m_maxL 187 = 4 from by decide +kernel]; exact Nat.le_of_ble_eq_true rfl)).trans ?_
  exact ite_congr (by simp [a_rcv, show m_recv 187 = 11 from by decide +kernel]) (fun _ => rfl) (fun _ => rfl)
theorem B_X11_hearsLine_34 {k : Nat → Nat × Nat} {u : Nat → Nat → Int} {g : Nat → Nat → Nat} {t : Nat × Nat × Nat} {r0 : Nat} {x1 : Int} {v2 : AV} {v3 : AV} {v4 : AV} {v5 : AV} {y0 : Int} : a_X 189 34 [a_r (r0), a_i (x1), v2, v3, v4, v5] [a_i (y0)] (k, u, g, t) = if (k r0).1 = 11 then if (u r0 15 : Int) = 0 then if (k r0).1 = 11 then (a_m 167 [a_r (r0), a_i (x1), a_i (0), a_i (y0)] (k, u, g, t)).bind (a_back 189 47 3 [a_r (r0), a_i (x1), a_i (y0), v3, v4, v5] []) else none else some (.inl none, (k, u, g, t)) else none := by
  refine (X_istore_n (m := 189) (pc := 34) (n := 2) (by decide +kernel) rfl (Nat.le_of_ble_eq_true rfl) rfl).trans ?_
  refine (X_aload_n (m := 189) (pc := 35) (n := 0) (by decide +kernel) rfl).trans ?_
  refine (X_getI (m := 189) (pc := 36) (n := 117) (c := 11) (q := 15) (ty := 1) (fi := false) (by decide +kernel) (by decide +kernel) (by decide +kernel)).trans ?_
  refine ite_congr rfl (fun _ => ?_) (fun _ => rfl)
  refine (X_if_eq (m := 189) (pc := 39) (off := 4) (tg := 43) (by decide +kernel) (by decide +kernel)).trans ?_
  refine ite_congr rfl (fun _ => ?_) (fun _ => ?_)
  · refine (X_aload_n (m := 189) (pc := 43) (n := 0) (by decide +kernel) rfl).trans ?_
    refine (X_iload_n (m := 189) (pc := 44) (n := 1) (by decide +kernel) rfl).trans ?_
    refine (X_iconst (m := 189) (pc := 45) (n := 0) (by decide +kernel) ).trans ?_
    refine (X_iload_n (m := 189) (pc := 46) (n := 2) (by decide +kernel) rfl).trans ?_
    refine (X_call_vi (m := 189) (pc := 47) (q := 149) (y := 167) (n := 4) (as := [a_r (r0), a_i (x1), a_i (0), a_i (y0)]) (rest := []) (by decide +kernel) (by decide +kernel) (by decide +kernel) (by decide +kernel) rfl rfl (Nat.le_of_ble_eq_true rfl) (Nat.le_of_ble_eq_true rfl) rfl (by rw [show m_maxL 167 = 4 from by decide +kernel]; exact Nat.le_of_ble_eq_true rfl)).trans ?_
    exact ite_congr (by simp [a_rcv, show m_recv 167 = 11 from by decide +kernel]) (fun _ => rfl) (fun _ => rfl)
  · exact X_return (m := 189) (pc := 42) (by decide +kernel) (by decide +kernel)
theorem B_X11_hearsLine_50 {k : Nat → Nat × Nat} {u : Nat → Nat → Int} {g : Nat → Nat → Nat} {t : Nat × Nat × Nat} {r0 : Nat} {x1 : Int} {x2 : Int} {v3 : AV} {v4 : AV} {v5 : AV} : a_X 189 50 [a_r (r0), a_i (x1), a_i (x2), v3, v4, v5] [] (k, u, g, t) = if (k r0).1 = 11 then (a_m 186 [a_r (r0), a_r (9)] (k, u, g, t)).bind (a_back 189 53 3 [a_r (r0), a_i (x1), a_i (x2), v3, v4, v5] []) else none := by
  refine (X_aload_n (m := 189) (pc := 50) (n := 0) (by decide +kernel) rfl).trans ?_
  refine (X_ldcs (m := 189) (pc := 51) (n := 153) (q := 9) (by decide +kernel) (by decide +kernel) (by decide +kernel)).trans ?_
  refine (X_call_vi (m := 189) (pc := 53) (q := 155) (y := 186) (n := 2) (as := [a_r (r0), a_r (9)]) (rest := []) (by decide +kernel) (by decide +kernel) (by decide +kernel) (by decide +kernel) rfl rfl (Nat.le_of_ble_eq_true rfl) (Nat.le_of_ble_eq_true rfl) rfl (by rw [show m_maxL 186 = 3 from by decide +kernel]; exact Nat.le_of_ble_eq_true rfl)).trans ?_
  exact ite_congr (by simp [a_rcv, show m_recv 186 = 11 from by decide +kernel]) (fun _ => rfl) (fun _ => rfl)
theorem B_X11_hearsLine_56 {k : Nat → Nat × Nat} {u : Nat → Nat → Int} {g : Nat → Nat → Nat} {t : Nat × Nat × Nat} {r0 : Nat} {x1 : Int} {x2 : Int} {v3 : AV} {v4 : AV} {v5 : AV} {y0 : Int} : a_X 189 56 [a_r (r0), a_i (x1), a_i (x2), v3, v4, v5] [a_i (y0)] (k, u, g, t) = if (y0 : Int) = 0 then if (k r0).1 = 11 then if ((k (g r0 2)).1 = 20 ∨ (k (g r0 2)).1 = 24) ∧ 0 ≤ (3 : Int) ∧ (3 : Int) < ((k (g r0 2)).2 : Int) then if (k (g r0 2)).1 = 20 ∧ 0 ≤ (3 : Int) ∧ (3 : Int) < ((k (g r0 2)).2 : Int) then some (.inl none, (k, (upm u (g r0 2) (3 : Int).toNat (wr ((u (g r0 2) (3 : Int).toNat) + 1))), g, t)) else none else none else none else if (k r0).1 = 11 then (a_m 166 [a_r (r0), a_i (x1), a_i (1)] (k, u, g, t)).bind (a_back 189 62 3 [a_r (r0), a_i (x1), a_i (x2), v3, v4, v5] []) else none := by
  refine (X_if_eq (m := 189) (pc := 56) (off := 95) (tg := 151) (by decide +kernel) (by decide +kernel)).trans ?_
  refine ite_congr rfl (fun _ => ?_) (fun _ => ?_)
  · refine (X_aload_n (m := 189) (pc := 151) (n := 0) (by decide +kernel) rfl).trans ?_
    refine (X_getR (m := 189) (pc := 152) (n := 7) (c := 11) (q := 2) (fi := true) (by decide +kernel) (by decide +kernel)).trans ?_
    refine ite_congr rfl (fun _ => ?_) (fun _ => rfl)
    refine (X_iconst (m := 189) (pc := 155) (n := 3) (by decide +kernel) ).trans ?_
    refine (X_dup2 (m := 189) (pc := 156)  (by decide +kernel) rfl rfl rfl rfl).trans ?_
    refine (X_iaload (m := 189) (pc := 157)  (by decide +kernel) ).trans ?_
    refine ite_congr rfl (fun _ => ?_) (fun _ => rfl)
    refine (X_iconst (m := 189) (pc := 158) (n := 1) (by decide +kernel) ).trans ?_
    refine (X_iadd (m := 189) (pc := 159)  (by decide +kernel) ).trans ?_
    refine (X_iastore (m := 189) (pc := 160)  (by decide +kernel) ).trans ?_
    refine ite_congr rfl (fun _ => ?_) (fun _ => rfl)
    exact X_return (m := 189) (pc := 161) (by decide +kernel) (by decide +kernel)
  · refine (X_aload_n (m := 189) (pc := 59) (n := 0) (by decide +kernel) rfl).trans ?_
    refine (X_iload_n (m := 189) (pc := 60) (n := 1) (by decide +kernel) rfl).trans ?_
    refine (X_iconst (m := 189) (pc := 61) (n := 1) (by decide +kernel) ).trans ?_
    refine (X_call_vi (m := 189) (pc := 62) (q := 79) (y := 166) (n := 3) (as := [a_r (r0), a_i (x1), a_i (1)]) (rest := []) (by decide +kernel) (by decide +kernel) (by decide +kernel) (by decide +kernel) rfl rfl (Nat.le_of_ble_eq_true rfl) (Nat.le_of_ble_eq_true rfl) rfl (by rw [show m_maxL 166 = 3 from by decide +kernel]; exact Nat.le_of_ble_eq_true rfl)).trans ?_
    exact ite_congr (by simp [a_rcv, show m_recv 166 = 11 from by decide +kernel]) (fun _ => rfl) (fun _ => rfl)
theorem B_X11_hearsLine_65 {k : Nat → Nat × Nat} {u : Nat → Nat → Int} {g : Nat → Nat → Nat} {t : Nat × Nat × Nat} {r0 : Nat} {x1 : Int} {x2 : Int} {v3 : AV} {v4 : AV} {v5 : AV} {y0 : Int} : a_X 189 65 [a_r (r0), a_i (x1), a_i (x2), v3, v4, v5] [a_i (y0)] (k, u, g, t) = if (y0 : Int) ≠ (4 : Int) then if (k r0).1 = 11 then (a_m 184 [a_r (r0), a_i (0), a_i (3)] (k, u, g, t)).bind (a_back 189 78 3 [a_r (r0), a_i (x1), a_i (x2), a_i (y0), v4, v5] []) else none else if (k r0).1 = 11 then (a_m 184 [a_r (r0), a_i (1), a_i (3)] (k, u, g, t)).bind (a_back 189 78 3 [a_r (r0), a_i (x1), a_i (x2), a_i (y0), v4, v5] []) else none := by
  refine (X_istore_n (m := 189) (pc := 65) (n := 3) (by decide +kernel) rfl (Nat.le_of_ble_eq_true rfl) rfl).trans ?_
  refine (X_aload_n (m := 189) (pc := 66) (n := 0) (by decide +kernel) rfl).trans ?_
  refine (X_iload_n (m := 189) (pc := 67) (n := 3) (by decide +kernel) rfl).trans ?_
  refine (X_iconst (m := 189) (pc := 68) (n := 4) (by decide +kernel) ).trans ?_
  refine (X_ic_ne (m := 189) (pc := 69) (off := 7) (tg := 76) (by decide +kernel) (by decide +kernel)).trans ?_
  refine ite_congr rfl (fun _ => ?_) (fun _ => ?_)
  · refine (X_iconst (m := 189) (pc := 76) (n := 0) (by decide +kernel) ).trans ?_
    refine (X_iconst (m := 189) (pc := 77) (n := 3) (by decide +kernel) ).trans ?_
    refine (X_call_vi (m := 189) (pc := 78) (q := 142) (y := 184) (n := 3) (as := [a_r (r0), a_i (0), a_i (3)]) (rest := []) (by decide +kernel) (by decide +kernel) (by decide +kernel) (by decide +kernel) rfl rfl (Nat.le_of_ble_eq_true rfl) (Nat.le_of_ble_eq_true rfl) rfl (by rw [show m_maxL 184 = 3 from by decide +kernel]; exact Nat.le_of_ble_eq_true rfl)).trans ?_
    exact ite_congr (by simp [a_rcv, show m_recv 184 = 11 from by decide +kernel]) (fun _ => rfl) (fun _ => rfl)
  · refine (X_iconst (m := 189) (pc := 72) (n := 1) (by decide +kernel) ).trans ?_
    refine (X_goto (m := 189) (pc := 73) (off := 4) (tg := 77) (by decide +kernel) (by decide +kernel)).trans ?_
    refine (X_iconst (m := 189) (pc := 77) (n := 3) (by decide +kernel) ).trans ?_
    refine (X_call_vi (m := 189) (pc := 78) (q := 142) (y := 184) (n := 3) (as := [a_r (r0), a_i (1), a_i (3)]) (rest := []) (by decide +kernel) (by decide +kernel) (by decide +kernel) (by decide +kernel) rfl rfl (Nat.le_of_ble_eq_true rfl) (Nat.le_of_ble_eq_true rfl) rfl (by rw [show m_maxL 184 = 3 from by decide +kernel]; exact Nat.le_of_ble_eq_true rfl)).trans ?_
    exact ite_congr (by simp [a_rcv, show m_recv 184 = 11 from by decide +kernel]) (fun _ => rfl) (fun _ => rfl)
theorem B_X11_hearsLine_81 {k : Nat → Nat × Nat} {u : Nat → Nat → Int} {g : Nat → Nat → Nat} {t : Nat × Nat × Nat} {r0 : Nat} {x1 : Int} {x2 : Int} {x3 : Int} {v4 : AV} {v5 : AV} : a_X 189 81 [a_r (r0), a_i (x1), a_i (x2), a_i (x3), v4, v5] [] (k, u, g, t) = if (k r0).1 = 11 then (a_m 185 [a_r (r0)] (k, u, g, t)).bind (a_back 189 82 3 [a_r (r0), a_i (x1), a_i (x2), a_i (x3), v4, v5] []) else none := by
  refine (X_aload_n (m := 189) (pc := 81) (n := 0) (by decide +kernel) rfl).trans ?_
  refine (X_call_vi (m := 189) (pc := 82) (q := 139) (y := 185) (n := 1) (as := [a_r (r0)]) (rest := []) (by decide +kernel) (by decide +kernel) (by decide +kernel) (by decide +kernel) rfl rfl (Nat.le_of_ble_eq_true rfl) (Nat.le_of_ble_eq_true rfl) rfl (by rw [show m_maxL 185 = 1 from by decide +kernel]; exact Nat.le_of_ble_eq_true rfl)).trans ?_
  exact ite_congr (by simp [a_rcv, show m_recv 185 = 11 from by decide +kernel]) (fun _ => rfl) (fun _ => rfl)
theorem B_X11_hearsLine_85 {k : Nat → Nat × Nat} {u : Nat → Nat → Int} {g : Nat → Nat → Nat} {t : Nat × Nat × Nat} {r0 : Nat} {x1 : Int} {x2 : Int} {x3 : Int} {v4 : AV} {v5 : AV} : a_X 189 85 [a_r (r0), a_i (x1), a_i (x2), a_i (x3), v4, v5] [] (k, u, g, t) = if (k r0).1 = 11 then (a_m 187 [a_r (r0), a_i (0), a_i (9999)] (k, u, g, t)).bind (a_back 189 90 3 [a_r (r0), a_i (x1), a_i (x2), a_i (x3), v4, v5] []) else none := by
  refine (X_aload_n (m := 189) (pc := 85) (n := 0) (by decide +kernel) rfl).trans ?_
  refine (X_iconst (m := 189) (pc := 86) (n := 0) (by decide +kernel) ).trans ?_
  refine (X_sipush (m := 189) (pc := 87) (n := 9999) (by decide +kernel) ).trans ?_
  refine (X_call_vi (m := 189) (pc := 90) (q := 146) (y := 187) (n := 3) (as := [a_r (r0), a_i (0), a_i (9999)]) (rest := []) (by decide +kernel) (by decide +kernel) (by decide +kernel) (by decide +kernel) rfl rfl (Nat.le_of_ble_eq_true rfl) (Nat.le_of_ble_eq_true rfl) rfl (by rw [show m_maxL 187 = 4 from by decide +kernel]; exact Nat.le_of_ble_eq_true rfl)).trans ?_
  exact ite_congr (by simp [a_rcv, show m_recv 187 = 11 from by decide +kernel]) (fun _ => rfl) (fun _ => rfl)
theorem B_X11_hearsLine_93 {k : Nat → Nat × Nat} {u : Nat → Nat → Int} {g : Nat → Nat → Nat} {t : Nat × Nat × Nat} {r0 : Nat} {x1 : Int} {x2 : Int} {x3 : Int} {v4 : AV} {v5 : AV} {y0 : Int} : a_X 189 93 [a_r (r0), a_i (x1), a_i (x2), a_i (x3), v4, v5] [a_i (y0)] (k, u, g, t) = if (k r0).1 = 11 then (a_m 187 [a_r (r0), a_i (y0), a_i (9999)] (k, u, g, t)).bind (a_back 189 101 3 [a_r (r0), a_i (x1), a_i (x2), a_i (x3), a_i (y0), v5] []) else none := by
  refine (X_istore (m := 189) (pc := 93) (n := 4) (by decide +kernel) rfl (Nat.le_of_ble_eq_true rfl) rfl).trans ?_
  refine (X_aload_n (m := 189) (pc := 95) (n := 0) (by decide +kernel) rfl).trans ?_
  refine (X_iload (m := 189) (pc := 96) (n := 4) (by decide +kernel) rfl).trans ?_
  refine (X_sipush (m := 189) (pc := 98) (n := 9999) (by decide +kernel) ).trans ?_
  refine (X_call_vi (m := 189) (pc := 101) (q := 146) (y := 187) (n := 3) (as := [a_r (r0), a_i (y0), a_i (9999)]) (rest := []) (by decide +kernel) (by decide +kernel) (by decide +kernel) (by decide +kernel) rfl rfl (Nat.le_of_ble_eq_true rfl) (Nat.le_of_ble_eq_true rfl) rfl (by rw [show m_maxL 187 = 4 from by decide +kernel]; exact Nat.le_of_ble_eq_true rfl)).trans ?_
  exact ite_congr (by simp [a_rcv, show m_recv 187 = 11 from by decide +kernel]) (fun _ => rfl) (fun _ => rfl)
theorem B_X11_hearsLine_104 {k : Nat → Nat × Nat} {u : Nat → Nat → Int} {g : Nat → Nat → Nat} {t : Nat × Nat × Nat} {r0 : Nat} {x1 : Int} {x2 : Int} {x3 : Int} {x4 : Int} {v5 : AV} {y0 : Int} : a_X 189 104 [a_r (r0), a_i (x1), a_i (x2), a_i (x3), a_i (x4), v5] [a_i (y0)] (k, u, g, t) = if (k r0).1 = 11 then if (u r0 15 : Int) ≠ 0 then a_X 189 50 [a_r (r0), a_i (x1), a_i (x2), a_i (x3), a_i (x4), a_i (y0)] [] (k, u, g, t) else if (k r0).1 = 11 then (a_m 167 [a_r (r0), a_i (x1), a_i (wr (2 + (wr (2 * x3)))), a_i (x4)] (k, u, g, t)).bind (a_back 189 122 3 [a_r (r0), a_i (x1), a_i (x2), a_i (x3), a_i (x4), a_i (y0)] []) else none else none := by
  refine (X_istore (m := 189) (pc := 104) (n := 5) (by decide +kernel) rfl (Nat.le_of_ble_eq_true rfl) rfl).trans ?_
  refine (X_aload_n (m := 189) (pc := 106) (n := 0) (by decide +kernel) rfl).trans ?_
  refine (X_getI (m := 189) (pc := 107) (n := 117) (c := 11) (q := 15) (ty := 1) (fi := false) (by decide +kernel) (by decide +kernel) (by decide +kernel)).trans ?_
  refine ite_congr rfl (fun _ => ?_) (fun _ => rfl)
  refine (X_if_ne (m := 189) (pc := 110) (off := 38) (tg := 148) (by decide +kernel) (by decide +kernel)).trans ?_
  refine ite_congr rfl (fun _ => ?_) (fun _ => ?_)
  · refine (X_goto (m := 189) (pc := 148) (off := -98) (tg := 50) (by decide +kernel) (by decide +kernel)).trans ?_
    rfl
  · refine (X_aload_n (m := 189) (pc := 113) (n := 0) (by decide +kernel) rfl).trans ?_
    refine (X_iload_n (m := 189) (pc := 114) (n := 1) (by decide +kernel) rfl).trans ?_
    refine (X_iconst (m := 189) (pc := 115) (n := 2) (by decide +kernel) ).trans ?_
    refine (X_iconst (m := 189) (pc := 116) (n := 2) (by decide +kernel) ).trans ?_
    refine (X_iload_n (m := 189) (pc := 117) (n := 3) (by decide +kernel) rfl).trans ?_
    refine (X_imul (m := 189) (pc := 118)  (by decide +kernel) ).trans ?_
    refine (X_iadd (m := 189) (pc := 119)  (by decide +kernel) ).trans ?_
    refine (X_iload (m := 189) (pc := 120) (n := 4) (by decide +kernel) rfl).trans ?_
    refine (X_call_vi (m := 189) (pc := 122) (q := 149) (y := 167) (n := 4) (as := [a_r (r0), a_i (x1), a_i (wr (2 + (wr (2 * x3)))), a_i (x4)]) (rest := []) (by decide +kernel) (by decide +kernel) (by decide +kernel) (by decide +kernel) rfl rfl (Nat.le_of_ble_eq_true rfl) (Nat.le_of_ble_eq_true rfl) rfl (by rw [show m_maxL 167 = 4 from by decide +kernel]; exact Nat.le_of_ble_eq_true rfl)).trans ?_
    exact ite_congr (by simp [a_rcv, show m_recv 167 = 11 from by decide +kernel]) (fun _ => rfl) (fun _ => rfl)
theorem B_X11_hearsLine_125 {k : Nat → Nat × Nat} {u : Nat → Nat → Int} {g : Nat → Nat → Nat} {t : Nat × Nat × Nat} {r0 : Nat} {x1 : Int} {x2 : Int} {x3 : Int} {x4 : Int} {x5 : Int} : a_X 189 125 [a_r (r0), a_i (x1), a_i (x2), a_i (x3), a_i (x4), a_i (x5)] [] (k, u, g, t) = if (k r0).1 = 11 then (a_m 167 [a_r (r0), a_i (x1), a_i (wr ((wr (2 + (wr (2 * x3)))) + 1)), a_i (x5)] (k, u, g, t)).bind (a_back 189 136 3 [a_r (r0), a_i (x1), a_i (x2), a_i (x3), a_i (x4), a_i (x5)] []) else none := by
  refine (X_aload_n (m := 189) (pc := 125) (n := 0) (by decide +kernel) rfl).trans ?_
  refine (X_iload_n (m := 189) (pc := 126) (n := 1) (by decide +kernel) rfl).trans ?_
  refine (X_iconst (m := 189) (pc := 127) (n := 2) (by decide +kernel) ).trans ?_
  refine (X_iconst (m := 189) (pc := 128) (n := 2) (by decide +kernel) ).trans ?_
  refine (X_iload_n (m := 189) (pc := 129) (n := 3) (by decide +kernel) rfl).trans ?_
  refine (X_imul (m := 189) (pc := 130)  (by decide +kernel) ).trans ?_
  refine (X_iadd (m := 189) (pc := 131)  (by decide +kernel) ).trans ?_
  refine (X_iconst (m := 189) (pc := 132) (n := 1) (by decide +kernel) ).trans ?_
  refine (X_iadd (m := 189) (pc := 133)  (by decide +kernel) ).trans ?_
  refine (X_iload (m := 189) (pc := 134) (n := 5) (by decide +kernel) rfl).trans ?_
  refine (X_call_vi (m := 189) (pc := 136) (q := 149) (y := 167) (n := 4) (as := [a_r (r0), a_i (x1), a_i (wr ((wr (2 + (wr (2 * x3)))) + 1)), a_i (x5)]) (rest := []) (by decide +kernel) (by decide +kernel) (by decide +kernel) (by decide +kernel) rfl rfl (Nat.le_of_ble_eq_true rfl) (Nat.le_of_ble_eq_true rfl) rfl (by rw [show m_maxL 167 = 4 from by decide +kernel]; exact Nat.le_of_ble_eq_true rfl)).trans ?_
  exact ite_congr (by simp [a_rcv, show m_recv 167 = 11 from by decide +kernel]) (fun _ => rfl) (fun _ => rfl)
theorem B_X11_hearsLine_139 {k : Nat → Nat × Nat} {u : Nat → Nat → Int} {g : Nat → Nat → Nat} {t : Nat × Nat × Nat} {r0 : Nat} {x1 : Int} {x2 : Int} {x3 : Int} {x4 : Int} {x5 : Int} : a_X 189 139 [a_r (r0), a_i (x1), a_i (x2), a_i (x3), a_i (x4), a_i (x5)] [] (k, u, g, t) = if (k r0).1 = 11 then (a_m 167 [a_r (r0), a_i (x1), a_i (1), a_i (wr (x3 + 1))] (k, u, g, t)).bind (a_back 189 145 3 [a_r (r0), a_i (x1), a_i (x2), a_i (x3), a_i (x4), a_i (x5)] []) else none := by
  refine (X_aload_n (m := 189) (pc := 139) (n := 0) (by decide +kernel) rfl).trans ?_
  refine (X_iload_n (m := 189) (pc := 140) (n := 1) (by decide +kernel) rfl).trans ?_
  refine (X_iconst (m := 189) (pc := 141) (n := 1) (by decide +kernel) ).trans ?_
  refine (X_iload_n (m := 189) (pc := 142) (n := 3) (by decide +kernel) rfl).trans ?_
  refine (X_iconst (m := 189) (pc := 143) (n := 1) (by decide +kernel) ).trans ?_
  refine (X_iadd (m := 189) (pc := 144)  (by decide +kernel) ).trans ?_
  refine (X_call_vi (m := 189) (pc := 145) (q := 149) (y := 167) (n := 4) (as := [a_r (r0), a_i (x1), a_i (1), a_i (wr (x3 + 1))]) (rest := []) (by decide +kernel) (by decide +kernel) (by decide +kernel) (by decide +kernel) rfl rfl (Nat.le_of_ble_eq_true rfl) (Nat.le_of_ble_eq_true rfl) rfl (by rw [show m_maxL 167 = 4 from by decide +kernel]; exact Nat.le_of_ble_eq_true rfl)).trans ?_
  exact ite_congr (by simp [a_rcv, show m_recv 167 = 11 from by decide +kernel]) (fun _ => rfl) (fun _ => rfl)
theorem B_X11_hearsLine_148 {k : Nat → Nat × Nat} {u : Nat → Nat → Int} {g : Nat → Nat → Nat} {t : Nat × Nat × Nat} {r0 : Nat} {x1 : Int} {x2 : Int} {x3 : Int} {x4 : Int} {x5 : Int} : a_X 189 148 [a_r (r0), a_i (x1), a_i (x2), a_i (x3), a_i (x4), a_i (x5)] [] (k, u, g, t) = a_X 189 50 [a_r (r0), a_i (x1), a_i (x2), a_i (x3), a_i (x4), a_i (x5)] [] (k, u, g, t) := by
  refine (X_goto (m := 189) (pc := 148) (off := -98) (tg := 50) (by decide +kernel) (by decide +kernel)).trans ?_
  rfl
theorem E_X11_reads {σ : AS} {r0 : Nat} : a_m 190 [a_r (r0)] σ = a_X 190 0 [a_r (r0), a_x false, a_x false, a_x false] [] σ := a_m_eq (by rw [a_entry, show m_maxL 190 = 4 from by decide +kernel]; rfl)
theorem B_X11_reads_0 {k : Nat → Nat × Nat} {u : Nat → Nat → Int} {g : Nat → Nat → Nat} {t : Nat × Nat × Nat} {r0 : Nat} {v1 : AV} {v2 : AV} {v3 : AV} : a_X 190 0 [a_r (r0), v1, v2, v3] [] (k, u, g, t) = a_X 190 2 [a_r (r0), a_i (0), v2, v3] [] (k, u, g, t) := by
  refine (X_iconst (m := 190) (pc := 0) (n := 0) (by decide +kernel) ).trans ?_
  refine (X_istore_n (m := 190) (pc := 1) (n := 1) (by decide +kernel) rfl (Nat.le_of_ble_eq_true rfl) rfl).trans ?_
  rfl
theorem B_X11_reads_2 {k : Nat → Nat × Nat} {u : Nat → Nat → Int} {g : Nat → Nat → Nat} {t : Nat × Nat × Nat} {r0 : Nat} {x1 : Int} {v2 : AV} {v3 : AV} : a_X 190 2 [a_r (r0), a_i (x1), v2, v3] [] (k, u, g, t) = if (x1 : Int) ≥ (3280 : Int) then a_X 190 24 [a_r (r0), a_i (-1), v2, v3] [] (k, u, g, t) else if (k r0).1 = 11 then if (k (g r0 2)).1 = 20 ∧ 0 ≤ (x1 : Int) ∧ (x1 : Int) < ((k (g r0 2)).2 : Int) then a_X 190 2 [a_r (r0), a_i (wr (x1 + 1)), v2, v3] [] (k, (upm u (g r0 2) (x1 : Int).toNat 0), g, t) else none else none := by
  refine (X_iload_n (m := 190) (pc := 2) (n := 1) (by decide +kernel) rfl).trans ?_
  refine (X_sipush (m := 190) (pc := 3) (n := 3280) (by decide +kernel) ).trans ?_
  refine (X_ic_ge (m := 190) (pc := 6) (off := 16) (tg := 22) (by decide +kernel) (by decide +kernel)).trans ?_
  refine ite_congr rfl (fun _ => ?_) (fun _ => ?_)
  · refine (X_iconst (m := 190) (pc := 22) (n := -1) (by decide +kernel) ).trans ?_
    refine (X_istore_n (m := 190) (pc := 23) (n := 1) (by decide +kernel) rfl (Nat.le_of_ble_eq_true rfl) rfl).trans ?_
    rfl
  · refine (X_aload_n (m := 190) (pc := 9) (n := 0) (by decide +kernel) rfl).trans ?_
    refine (X_getR (m := 190) (pc := 10) (n := 7) (c := 11) (q := 2) (fi := true) (by decide +kernel) (by decide +kernel)).trans ?_
    refine ite_congr rfl (fun _ => ?_) (fun _ => rfl)
    refine (X_iload_n (m := 190) (pc := 13) (n := 1) (by decide +kernel) rfl).trans ?_
    refine (X_iconst (m := 190) (pc := 14) (n := 0) (by decide +kernel) ).trans ?_
    refine (X_iastore (m := 190) (pc := 15)  (by decide +kernel) ).trans ?_
    refine ite_congr rfl (fun _ => ?_) (fun _ => rfl)
    refine (X_iinc (m := 190) (pc := 16) (n := 1) (c := 1) (by decide +kernel) rfl rfl (Nat.le_of_ble_eq_true rfl) rfl).trans ?_
    refine (X_goto (m := 190) (pc := 19) (off := -17) (tg := 2) (by decide +kernel) (by decide +kernel)).trans ?_
    rfl
theorem B_X11_reads_24 {k : Nat → Nat × Nat} {u : Nat → Nat → Int} {g : Nat → Nat → Nat} {t : Nat × Nat × Nat} {r0 : Nat} {x1 : Int} {v2 : AV} {v3 : AV} : a_X 190 24 [a_r (r0), a_i (x1), v2, v3] [] (k, u, g, t) = if (x1 : Int) ≥ (6 : Int) then if (k r0).1 = 11 then (a_m 186 [a_r (r0), a_r (11)] (k, u, g, t)).bind (a_back 190 80 3 [a_r (r0), a_i (x1), v2, v3] [a_r (r0)]) else none else a_X 190 32 [a_r (r0), a_i (x1), a_i (0), v3] [] (k, u, g, t) := by
  refine (X_iload_n (m := 190) (pc := 24) (n := 1) (by decide +kernel) rfl).trans ?_
  refine (X_bipush (m := 190) (pc := 25) (n := 6) (by decide +kernel) ).trans ?_
  refine (X_ic_ge (m := 190) (pc := 27) (off := 49) (tg := 76) (by decide +kernel) (by decide +kernel)).trans ?_
  refine ite_congr rfl (fun _ => ?_) (fun _ => ?_)
  · refine (X_aload_n (m := 190) (pc := 76) (n := 0) (by decide +kernel) rfl).trans ?_
    refine (X_aload_n (m := 190) (pc := 77) (n := 0) (by decide +kernel) rfl).trans ?_
    refine (X_ldcs (m := 190) (pc := 78) (n := 159) (q := 11) (by decide +kernel) (by decide +kernel) (by decide +kernel)).trans ?_
    refine (X_call_vi (m := 190) (pc := 80) (q := 155) (y := 186) (n := 2) (as := [a_r (r0), a_r (11)]) (rest := [a_r (r0)]) (by decide +kernel) (by decide +kernel) (by decide +kernel) (by decide +kernel) rfl rfl (Nat.le_of_ble_eq_true rfl) (Nat.le_of_ble_eq_true rfl) rfl (by rw [show m_maxL 186 = 3 from by decide +kernel]; exact Nat.le_of_ble_eq_true rfl)).trans ?_
    exact ite_congr (by simp [a_rcv, show m_recv 186 = 11 from by decide +kernel]) (fun _ => rfl) (fun _ => rfl)
  · refine (X_iconst (m := 190) (pc := 30) (n := 0) (by decide +kernel) ).trans ?_
    refine (X_istore_n (m := 190) (pc := 31) (n := 2) (by decide +kernel) rfl (Nat.le_of_ble_eq_true rfl) rfl).trans ?_
    rfl
theorem B_X11_reads_83 {k : Nat → Nat × Nat} {u : Nat → Nat → Int} {g : Nat → Nat → Nat} {t : Nat × Nat × Nat} {r0 : Nat} {x1 : Int} {v2 : AV} {v3 : AV} {q0 : Nat} {y1 : Int} : a_X 190 83 [a_r (r0), a_i (x1), v2, v3] [a_i (y1), a_r (q0)] (k, u, g, t) = if (y1 : Int) ≠ 0 then if (k q0).1 = 11 then (a_m 184 [a_r (q0), a_i (0), a_i (1)] (k, u, g, t)).bind (a_back 190 92 3 [a_r (r0), a_i (x1), v2, v3] []) else none else if (k q0).1 = 11 then (a_m 184 [a_r (q0), a_i (1), a_i (1)] (k, u, g, t)).bind (a_back 190 92 3 [a_r (r0), a_i (x1), v2, v3] []) else none := by
  refine (X_if_ne (m := 190) (pc := 83) (off := 7) (tg := 90) (by decide +kernel) (by decide +kernel)).trans ?_
  refine ite_congr rfl (fun _ => ?_) (fun _ => ?_)
  · refine (X_iconst (m := 190) (pc := 90) (n := 0) (by decide +kernel) ).trans ?_
    refine (X_iconst (m := 190) (pc := 91) (n := 1) (by decide +kernel) ).trans ?_
    refine (X_call_vi (m := 190) (pc := 92) (q := 142) (y := 184) (n := 3) (as := [a_r (q0), a_i (0), a_i (1)]) (rest := []) (by decide +kernel) (by decide +kernel) (by decide +kernel) (by decide +kernel) rfl rfl (Nat.le_of_ble_eq_true rfl) (Nat.le_of_ble_eq_true rfl) rfl (by rw [show m_maxL 184 = 3 from by decide +kernel]; exact Nat.le_of_ble_eq_true rfl)).trans ?_
    exact ite_congr (by simp [a_rcv, show m_recv 184 = 11 from by decide +kernel]) (fun _ => rfl) (fun _ => rfl)
  · refine (X_iconst (m := 190) (pc := 86) (n := 1) (by decide +kernel) ).trans ?_
    refine (X_goto (m := 190) (pc := 87) (off := 4) (tg := 91) (by decide +kernel) (by decide +kernel)).trans ?_
    refine (X_iconst (m := 190) (pc := 91) (n := 1) (by decide +kernel) ).trans ?_
    refine (X_call_vi (m := 190) (pc := 92) (q := 142) (y := 184) (n := 3) (as := [a_r (q0), a_i (1), a_i (1)]) (rest := []) (by decide +kernel) (by decide +kernel) (by decide +kernel) (by decide +kernel) rfl rfl (Nat.le_of_ble_eq_true rfl) (Nat.le_of_ble_eq_true rfl) rfl (by rw [show m_maxL 184 = 3 from by decide +kernel]; exact Nat.le_of_ble_eq_true rfl)).trans ?_
    exact ite_congr (by simp [a_rcv, show m_recv 184 = 11 from by decide +kernel]) (fun _ => rfl) (fun _ => rfl)
theorem B_X11_reads_32 {k : Nat → Nat × Nat} {u : Nat → Nat → Int} {g : Nat → Nat → Nat} {t : Nat × Nat × Nat} {r0 : Nat} {x1 : Int} {x2 : Int} {v3 : AV} : a_X 190 32 [a_r (r0), a_i (x1), a_i (x2), v3] [] (k, u, g, t) = if (x2 : Int) ≥ (12 : Int) then a_X 190 24 [a_r (r0), a_i (wr (x1 + 1)), a_i (x2), v3] [] (k, u, g, t) else a_X 190 40 [a_r (r0), a_i (x1), a_i (x2), a_i (0)] [] (k, u, g, t) := by
  refine (X_iload_n (m := 190) (pc := 32) (n := 2) (by decide +kernel) rfl).trans ?_
  refine (X_bipush (m := 190) (pc := 33) (n := 12) (by decide +kernel) ).trans ?_
  refine (X_ic_ge (m := 190) (pc := 35) (off := 35) (tg := 70) (by decide +kernel) (by decide +kernel)).trans ?_
  refine ite_congr rfl (fun _ => ?_) (fun _ => ?_)
  · refine (X_iinc (m := 190) (pc := 70) (n := 1) (c := 1) (by decide +kernel) rfl rfl (Nat.le_of_ble_eq_true rfl) rfl).trans ?_
    refine (X_goto (m := 190) (pc := 73) (off := -49) (tg := 24) (by decide +kernel) (by decide +kernel)).trans ?_
    rfl
  · refine (X_iconst (m := 190) (pc := 38) (n := 0) (by decide +kernel) ).trans ?_
    refine (X_istore_n (m := 190) (pc := 39) (n := 3) (by decide +kernel) rfl (Nat.le_of_ble_eq_true rfl) rfl).trans ?_
    rfl
theorem B_X11_reads_95 {k : Nat → Nat × Nat} {u : Nat → Nat → Int} {g : Nat → Nat → Nat} {t : Nat × Nat × Nat} {r0 : Nat} {x1 : Int} {v2 : AV} {v3 : AV} : a_X 190 95 [a_r (r0), a_i (x1), v2, v3] [] (k, u, g, t) = if (k r0).1 = 11 then (a_m 185 [a_r (r0)] (k, u, g, t)).bind (a_back 190 96 3 [a_r (r0), a_i (x1), v2, v3] []) else none := by
  refine (X_aload_n (m := 190) (pc := 95) (n := 0) (by decide +kernel) rfl).trans ?_
  refine (X_call_vi (m := 190) (pc := 96) (q := 139) (y := 185) (n := 1) (as := [a_r (r0)]) (rest := []) (by decide +kernel) (by decide +kernel) (by decide +kernel) (by decide +kernel) rfl rfl (Nat.le_of_ble_eq_true rfl) (Nat.le_of_ble_eq_true rfl) rfl (by rw [show m_maxL 185 = 1 from by decide +kernel]; exact Nat.le_of_ble_eq_true rfl)).trans ?_
  exact ite_congr (by simp [a_rcv, show m_recv 185 = 11 from by decide +kernel]) (fun _ => rfl) (fun _ => rfl)
theorem B_X11_reads_40 {k : Nat → Nat × Nat} {u : Nat → Nat → Int} {g : Nat → Nat → Nat} {t : Nat × Nat × Nat} {r0 : Nat} {x1 : Int} {x2 : Int} {x3 : Int} : a_X 190 40 [a_r (r0), a_i (x1), a_i (x2), a_i (x3)] [] (k, u, g, t) = if (x3 : Int) > (3 : Int) then a_X 190 32 [a_r (r0), a_i (x1), a_i (wr (x2 + 1)), a_i (x3)] [] (k, u, g, t) else if (k r0).1 = 11 then (a_m 164 [a_i (x1), a_i (x2)] (k, u, g, t)).bind (a_back 190 51 3 [a_r (r0), a_i (x1), a_i (x2), a_i (x3)] [a_r (g r0 2)]) else none := by
  refine (X_iload_n (m := 190) (pc := 40) (n := 3) (by decide +kernel) rfl).trans ?_
  refine (X_iconst (m := 190) (pc := 41) (n := 3) (by decide +kernel) ).trans ?_
  refine (X_ic_gt (m := 190) (pc := 42) (off := 22) (tg := 64) (by decide +kernel) (by decide +kernel)).trans ?_
  refine ite_congr rfl (fun _ => ?_) (fun _ => ?_)
  · refine (X_iinc (m := 190) (pc := 64) (n := 2) (c := 1) (by decide +kernel) rfl rfl (Nat.le_of_ble_eq_true rfl) rfl).trans ?_
    refine (X_goto (m := 190) (pc := 67) (off := -35) (tg := 32) (by decide +kernel) (by decide +kernel)).trans ?_
    rfl
  · refine (X_aload_n (m := 190) (pc := 45) (n := 0) (by decide +kernel) rfl).trans ?_
    refine (X_getR (m := 190) (pc := 46) (n := 7) (c := 11) (q := 2) (fi := true) (by decide +kernel) (by decide +kernel)).trans ?_
    refine ite_congr rfl (fun _ => ?_) (fun _ => rfl)
    refine (X_iload_n (m := 190) (pc := 49) (n := 1) (by decide +kernel) rfl).trans ?_
    refine (X_iload_n (m := 190) (pc := 50) (n := 2) (by decide +kernel) rfl).trans ?_
    refine (X_call_st (m := 190) (pc := 51) (q := 71) (y := 164) (n := 2) (as := [a_i (x1), a_i (x2)]) (rest := [a_r (g r0 2)]) (by decide +kernel) (by decide +kernel) (by decide +kernel) (by decide +kernel) rfl rfl (Nat.le_of_ble_eq_true rfl) (Nat.le_of_ble_eq_true rfl) rfl (by rw [show m_maxL 164 = 2 from by decide +kernel]; exact Nat.le_of_ble_eq_true rfl)).trans ?_
    exact if_pos rfl
theorem B_X11_reads_99 {k : Nat → Nat × Nat} {u : Nat → Nat → Int} {g : Nat → Nat → Nat} {t : Nat × Nat × Nat} {r0 : Nat} {x1 : Int} {v2 : AV} {v3 : AV} : a_X 190 99 [a_r (r0), a_i (x1), v2, v3] [] (k, u, g, t) = if (k r0).1 = 11 then if (k r0).1 = 11 then (a_m 187 [a_r (r0), a_i (0), a_i (99)] (k, u, g, t)).bind (a_back 190 108 3 [a_r (r0), a_i (x1), v2, v3] [a_i (0), a_r (g r0 2)]) else none else none := by
  refine (X_aload_n (m := 190) (pc := 99) (n := 0) (by decide +kernel) rfl).trans ?_
  refine (X_getR (m := 190) (pc := 100) (n := 7) (c := 11) (q := 2) (fi := true) (by decide +kernel) (by decide +kernel)).trans ?_
  refine ite_congr rfl (fun _ => ?_) (fun _ => rfl)
  refine (X_iconst (m := 190) (pc := 103) (n := 0) (by decide +kernel) ).trans ?_
  refine (X_aload_n (m := 190) (pc := 104) (n := 0) (by decide +kernel) rfl).trans ?_
  refine (X_iconst (m := 190) (pc := 105) (n := 0) (by decide +kernel) ).trans ?_
  refine (X_bipush (m := 190) (pc := 106) (n := 99) (by decide +kernel) ).trans ?_
  refine (X_call_vi (m := 190) (pc := 108) (q := 146) (y := 187) (n := 3) (as := [a_r (r0), a_i (0), a_i (99)]) (rest := [a_i (0), a_r (g r0 2)]) (by decide +kernel) (by decide +kernel) (by decide +kernel) (by decide +kernel) rfl rfl (Nat.le_of_ble_eq_true rfl) (Nat.le_of_ble_eq_true rfl) rfl (by rw [show m_maxL 187 = 4 from by decide +kernel]; exact Nat.le_of_ble_eq_true rfl)).trans ?_
  exact ite_congr (by simp [a_rcv, show m_recv 187 = 11 from by decide +kernel]) (fun _ => rfl) (fun _ => rfl)
theorem B_X11_reads_54 {k : Nat → Nat × Nat} {u : Nat → Nat → Int} {g : Nat → Nat → Nat} {t : Nat × Nat × Nat} {r0 : Nat} {x1 : Int} {x2 : Int} {x3 : Int} {q0 : Nat} {y1 : Int} : a_X 190 54 [a_r (r0), a_i (x1), a_i (x2), a_i (x3)] [a_i (y1), a_r (q0)] (k, u, g, t) = if (k q0).1 = 20 ∧ 0 ≤ (wr (y1 + x3) : Int) ∧ (wr (y1 + x3) : Int) < ((k q0).2 : Int) then a_X 190 40 [a_r (r0), a_i (x1), a_i (x2), a_i (wr (x3 + 1))] [] (k, (upm u q0 (wr (y1 + x3) : Int).toNat (-1)), g, t) else none := by
  refine (X_iload_n (m := 190) (pc := 54) (n := 3) (by decide +kernel) rfl).trans ?_
  refine (X_iadd (m := 190) (pc := 55)  (by decide +kernel) ).trans ?_
  refine (X_iconst (m := 190) (pc := 56) (n := -1) (by decide +kernel) ).trans ?_
  refine (X_iastore (m := 190) (pc := 57)  (by decide +kernel) ).trans ?_
  refine ite_congr rfl (fun _ => ?_) (fun _ => rfl)
  refine (X_iinc (m := 190) (pc := 58) (n := 3) (c := 1) (by decide +kernel) rfl rfl (Nat.le_of_ble_eq_true rfl) rfl).trans ?_
  refine (X_goto (m := 190) (pc := 61) (off := -21) (tg := 40) (by decide +kernel) (by decide +kernel)).trans ?_
  rfl
theorem B_X11_reads_111 {k : Nat → Nat × Nat} {u : Nat → Nat → Int} {g : Nat → Nat → Nat} {t : Nat × Nat × Nat} {r0 : Nat} {x1 : Int} {v2 : AV} {v3 : AV} {q0 : Nat} {y1 : Int} {y2 : Int} : a_X 190 111 [a_r (r0), a_i (x1), v2, v3] [a_i (y2), a_i (y1), a_r (q0)] (k, u, g, t) = if (k q0).1 = 20 ∧ 0 ≤ (y1 : Int) ∧ (y1 : Int) < ((k q0).2 : Int) then a_X 190 112 [a_r (r0), a_i (x1), v2, v3] [] (k, (upm u q0 (y1 : Int).toNat y2), g, t) else none := by
  refine (X_iastore (m := 190) (pc := 111)  (by decide +kernel) ).trans ?_
  refine ite_congr rfl (fun _ => ?_) (fun _ => rfl)
  rfl
theorem B_X11_reads_112 {k : Nat → Nat × Nat} {u : Nat → Nat → Int} {g : Nat → Nat → Nat} {t : Nat × Nat × Nat} {r0 : Nat} {x1 : Int} {v2 : AV} {v3 : AV} : a_X 190 112 [a_r (r0), a_i (x1), v2, v3] [] (k, u, g, t) = if (k r0).1 = 11 then if (u r0 15 : Int) ≠ 0 then if (k r0).1 = 11 then if (u r0 13 : Int) ≠ 0 then if (k r0).1 = 11 then (a_m 184 [a_r (r0), a_i (1), a_i (1)] (k, u, g, t)).bind (a_back 190 194 3 [a_r (r0), a_i (x1), v2, v3] []) else none else if (k r0).1 = 11 then if ((k (g r0 2)).1 = 20 ∨ (k (g r0 2)).1 = 24) ∧ 0 ≤ (3 : Int) ∧ (3 : Int) < ((k (g r0 2)).2 : Int) then if (u (g r0 2) (3 : Int).toNat : Int) ≠ 0 then if (k r0).1 = 11 then (a_m 184 [a_r (r0), a_i (0), a_i (1)] (k, u, g, t)).bind (a_back 190 194 3 [a_r (r0), a_i (x1), v2, v3] []) else none else if (k r0).1 = 11 then (a_m 184 [a_r (r0), a_i (1), a_i (1)] (k, u, g, t)).bind (a_back 190 194 3 [a_r (r0), a_i (x1), v2, v3] []) else none else none else none else none else if (k r0).1 = 11 then if (u r0 13 : Int) ≠ (3 : Int) then if (k r0).1 = 11 then if (u r0 13 : Int) ≠ 0 then if (k r0).1 = 11 then (a_m 184 [a_r (r0), a_i (1), a_i (1)] (k, u, g, t)).bind (a_back 190 194 3 [a_r (r0), a_i (x1), v2, v3] []) else none else if (k r0).1 = 11 then if ((k (g r0 2)).1 = 20 ∨ (k (g r0 2)).1 = 24) ∧ 0 ≤ (3 : Int) ∧ (3 : Int) < ((k (g r0 2)).2 : Int) then if (u (g r0 2) (3 : Int).toNat : Int) ≠ 0 then if (k r0).1 = 11 then (a_m 184 [a_r (r0), a_i (0), a_i (1)] (k, u, g, t)).bind (a_back 190 194 3 [a_r (r0), a_i (x1), v2, v3] []) else none else if (k r0).1 = 11 then (a_m 184 [a_r (r0), a_i (1), a_i (1)] (k, u, g, t)).bind (a_back 190 194 3 [a_r (r0), a_i (x1), v2, v3] []) else none else none else none else none else if (k r0).1 = 11 then (a_m 182 [a_r (r0)] (k, u, g, t)).bind (a_back 190 128 3 [a_r (r0), a_i (x1), v2, v3] []) else none else none else none := by
  refine (X_aload_n (m := 190) (pc := 112) (n := 0) (by decide +kernel) rfl).trans ?_
  refine (X_getI (m := 190) (pc := 113) (n := 117) (c := 11) (q := 15) (ty := 1) (fi := false) (by decide +kernel) (by decide +kernel) (by decide +kernel)).trans ?_
  refine ite_congr rfl (fun _ => ?_) (fun _ => rfl)
  refine (X_if_ne (m := 190) (pc := 116) (off := 55) (tg := 171) (by decide +kernel) (by decide +kernel)).trans ?_
  refine ite_congr rfl (fun _ => ?_) (fun _ => ?_)
  · refine (X_aload_n (m := 190) (pc := 171) (n := 0) (by decide +kernel) rfl).trans ?_
    refine (X_aload_n (m := 190) (pc := 172) (n := 0) (by decide +kernel) rfl).trans ?_
    refine (X_getI (m := 190) (pc := 173) (n := 105) (c := 11) (q := 13) (ty := 1) (fi := false) (by decide +kernel) (by decide +kernel) (by decide +kernel)).trans ?_
    refine ite_congr rfl (fun _ => ?_) (fun _ => rfl)
    refine (X_if_ne (m := 190) (pc := 176) (off := 12) (tg := 188) (by decide +kernel) (by decide +kernel)).trans ?_
    refine ite_congr rfl (fun _ => ?_) (fun _ => ?_)
    · refine (X_iconst (m := 190) (pc := 188) (n := 1) (by decide +kernel) ).trans ?_
      refine (X_goto (m := 190) (pc := 189) (off := 4) (tg := 193) (by decide +kernel) (by decide +kernel)).trans ?_
      refine (X_iconst (m := 190) (pc := 193) (n := 1) (by decide +kernel) ).trans ?_
      refine (X_call_vi (m := 190) (pc := 194) (q := 142) (y := 184) (n := 3) (as := [a_r (r0), a_i (1), a_i (1)]) (rest := []) (by decide +kernel) (by decide +kernel) (by decide +kernel) (by decide +kernel) rfl rfl (Nat.le_of_ble_eq_true rfl) (Nat.le_of_ble_eq_true rfl) rfl (by rw [show m_maxL 184 = 3 from by decide +kernel]; exact Nat.le_of_ble_eq_true rfl)).trans ?_
      exact ite_congr (by simp [a_rcv, show m_recv 184 = 11 from by decide +kernel]) (fun _ => rfl) (fun _ => rfl)
    · refine (X_aload_n (m := 190) (pc := 179) (n := 0) (by decide +kernel) rfl).trans ?_
      refine (X_getR (m := 190) (pc := 180) (n := 7) (c := 11) (q := 2) (fi := true) (by decide +kernel) (by decide +kernel)).trans ?_
      refine ite_congr rfl (fun _ => ?_) (fun _ => rfl)
      refine (X_iconst (m := 190) (pc := 183) (n := 3) (by decide +kernel) ).trans ?_
      refine (X_iaload (m := 190) (pc := 184)  (by decide +kernel) ).trans ?_
      refine ite_congr rfl (fun _ => ?_) (fun _ => rfl)
      refine (X_if_ne (m := 190) (pc := 185) (off := 7) (tg := 192) (by decide +kernel) (by decide +kernel)).trans ?_
      refine ite_congr rfl (fun _ => ?_) (fun _ => ?_)
      · refine (X_iconst (m := 190) (pc := 192) (n := 0) (by decide +kernel) ).trans ?_
        refine (X_iconst (m := 190) (pc := 193) (n := 1) (by decide +kernel) ).trans ?_
        refine (X_call_vi (m := 190) (pc := 194) (q := 142) (y := 184) (n := 3) (as := [a_r (r0), a_i (0), a_i (1)]) (rest := []) (by decide +kernel) (by decide +kernel) (by decide +kernel) (by decide +kernel) rfl rfl (Nat.le_of_ble_eq_true rfl) (Nat.le_of_ble_eq_true rfl) rfl (by rw [show m_maxL 184 = 3 from by decide +kernel]; exact Nat.le_of_ble_eq_true rfl)).trans ?_
        exact ite_congr (by simp [a_rcv, show m_recv 184 = 11 from by decide +kernel]) (fun _ => rfl) (fun _ => rfl)
      · refine (X_iconst (m := 190) (pc := 188) (n := 1) (by decide +kernel) ).trans ?_
        refine (X_goto (m := 190) (pc := 189) (off := 4) (tg := 193) (by decide +kernel) (by decide +kernel)).trans ?_
        refine (X_iconst (m := 190) (pc := 193) (n := 1) (by decide +kernel) ).trans ?_
        refine (X_call_vi (m := 190) (pc := 194) (q := 142) (y := 184) (n := 3) (as := [a_r (r0), a_i (1), a_i (1)]) (rest := []) (by decide +kernel) (by decide +kernel) (by decide +kernel) (by decide +kernel) rfl rfl (Nat.le_of_ble_eq_true rfl) (Nat.le_of_ble_eq_true rfl) rfl (by rw [show m_maxL 184 = 3 from by decide +kernel]; exact Nat.le_of_ble_eq_true rfl)).trans ?_
        exact ite_congr (by simp [a_rcv, show m_recv 184 = 11 from by decide +kernel]) (fun _ => rfl) (fun _ => rfl)
  · refine (X_aload_n (m := 190) (pc := 119) (n := 0) (by decide +kernel) rfl).trans ?_
    refine (X_getI (m := 190) (pc := 120) (n := 105) (c := 11) (q := 13) (ty := 1) (fi := false) (by decide +kernel) (by decide +kernel) (by decide +kernel)).trans ?_
    refine ite_congr rfl (fun _ => ?_) (fun _ => rfl)
    refine (X_iconst (m := 190) (pc := 123) (n := 3) (by decide +kernel) ).trans ?_
    refine (X_ic_ne (m := 190) (pc := 124) (off := 47) (tg := 171) (by decide +kernel) (by decide +kernel)).trans ?_
    refine ite_congr rfl (fun _ => ?_) (fun _ => ?_)
    · refine (X_aload_n (m := 190) (pc := 171) (n := 0) (by decide +kernel) rfl).trans ?_
      refine (X_aload_n (m := 190) (pc := 172) (n := 0) (by decide +kernel) rfl).trans ?_
      refine (X_getI (m := 190) (pc := 173) (n := 105) (c := 11) (q := 13) (ty := 1) (fi := false) (by decide +kernel) (by decide +kernel) (by decide +kernel)).trans ?_
      refine ite_congr rfl (fun _ => ?_) (fun _ => rfl)
      refine (X_if_ne (m := 190) (pc := 176) (off := 12) (tg := 188) (by decide +kernel) (by decide +kernel)).trans ?_
      refine ite_congr rfl (fun _ => ?_) (fun _ => ?_)
      · refine (X_iconst (m := 190) (pc := 188) (n := 1) (by decide +kernel) ).trans ?_
        refine (X_goto (m := 190) (pc := 189) (off := 4) (tg := 193) (by decide +kernel) (by decide +kernel)).trans ?_
        refine (X_iconst (m := 190) (pc := 193) (n := 1) (by decide +kernel) ).trans ?_
        refine (X_call_vi (m := 190) (pc := 194) (q := 142) (y := 184) (n := 3) (as := [a_r (r0), a_i (1), a_i (1)]) (rest := []) (by decide +kernel) (by decide +kernel) (by decide +kernel) (by decide +kernel) rfl rfl (Nat.le_of_ble_eq_true rfl) (Nat.le_of_ble_eq_true rfl) rfl (by rw [show m_maxL 184 = 3 from by decide +kernel]; exact Nat.le_of_ble_eq_true rfl)).trans ?_
        exact ite_congr (by simp [a_rcv, show m_recv 184 = 11 from by decide +kernel]) (fun _ => rfl) (fun _ => rfl)
      · refine (X_aload_n (m := 190) (pc := 179) (n := 0) (by decide +kernel) rfl).trans ?_
        refine (X_getR (m := 190) (pc := 180) (n := 7) (c := 11) (q := 2) (fi := true) (by decide +kernel) (by decide +kernel)).trans ?_
        refine ite_congr rfl (fun _ => ?_) (fun _ => rfl)
        refine (X_iconst (m := 190) (pc := 183) (n := 3) (by decide +kernel) ).trans ?_
        refine (X_iaload (m := 190) (pc := 184)  (by decide +kernel) ).trans ?_
        refine ite_congr rfl (fun _ => ?_) (fun _ => rfl)
        refine (X_if_ne (m := 190) (pc := 185) (off := 7) (tg := 192) (by decide +kernel) (by decide +kernel)).trans ?_
        refine ite_congr rfl (fun _ => ?_) (fun _ => ?_)
        · refine (X_iconst (m := 190) (pc := 192) (n := 0) (by decide +kernel) ).trans ?_
          refine (X_iconst (m := 190) (pc := 193) (n := 1) (by decide +kernel) ).trans ?_
          refine (X_call_vi (m := 190) (pc := 194) (q := 142) (y := 184) (n := 3) (as := [a_r (r0), a_i (0), a_i (1)]) (rest := []) (by decide +kernel) (by decide +kernel) (by decide +kernel) (by decide +kernel) rfl rfl (Nat.le_of_ble_eq_true rfl) (Nat.le_of_ble_eq_true rfl) rfl (by rw [show m_maxL 184 = 3 from by decide +kernel]; exact Nat.le_of_ble_eq_true rfl)).trans ?_
          exact ite_congr (by simp [a_rcv, show m_recv 184 = 11 from by decide +kernel]) (fun _ => rfl) (fun _ => rfl)
        · refine (X_iconst (m := 190) (pc := 188) (n := 1) (by decide +kernel) ).trans ?_
          refine (X_goto (m := 190) (pc := 189) (off := 4) (tg := 193) (by decide +kernel) (by decide +kernel)).trans ?_
          refine (X_iconst (m := 190) (pc := 193) (n := 1) (by decide +kernel) ).trans ?_
          refine (X_call_vi (m := 190) (pc := 194) (q := 142) (y := 184) (n := 3) (as := [a_r (r0), a_i (1), a_i (1)]) (rest := []) (by decide +kernel) (by decide +kernel) (by decide +kernel) (by decide +kernel) rfl rfl (Nat.le_of_ble_eq_true rfl) (Nat.le_of_ble_eq_true rfl) rfl (by rw [show m_maxL 184 = 3 from by decide +kernel]; exact Nat.le_of_ble_eq_true rfl)).trans ?_
          exact ite_congr (by simp [a_rcv, show m_recv 184 = 11 from by decide +kernel]) (fun _ => rfl) (fun _ => rfl)
    · refine (X_aload_n (m := 190) (pc := 127) (n := 0) (by decide +kernel) rfl).trans ?_
      refine (X_call_vi (m := 190) (pc := 128) (q := 127) (y := 182) (n := 1) (as := [a_r (r0)]) (rest := []) (by decide +kernel) (by decide +kernel) (by decide +kernel) (by decide +kernel) rfl rfl (Nat.le_of_ble_eq_true rfl) (Nat.le_of_ble_eq_true rfl) rfl (by rw [show m_maxL 182 = 2 from by decide +kernel]; exact Nat.le_of_ble_eq_true rfl)).trans ?_
      exact ite_congr (by simp [a_rcv, show m_recv 182 = 11 from by decide +kernel]) (fun _ => rfl) (fun _ => rfl)
theorem B_X11_reads_197 {k : Nat → Nat × Nat} {u : Nat → Nat → Int} {g : Nat → Nat → Nat} {t : Nat × Nat × Nat} {r0 : Nat} {x1 : Int} {v2 : AV} {v3 : AV} : a_X 190 197 [a_r (r0), a_i (x1), v2, v3] [] (k, u, g, t) = some (.inl none, (k, u, g, t)) := by
  exact X_return (m := 190) (pc := 197) (by decide +kernel) (by decide +kernel)
theorem B_X11_reads_131 {k : Nat → Nat × Nat} {u : Nat → Nat → Int} {g : Nat → Nat → Nat} {t : Nat × Nat × Nat} {r0 : Nat} {x1 : Int} {v2 : AV} {v3 : AV} : a_X 190 131 [a_r (r0), a_i (x1), v2, v3] [] (k, u, g, t) = if (k r0).1 = 11 then (a_m 186 [a_r (r0), a_r (13)] (k, u, g, t)).bind (a_back 190 134 3 [a_r (r0), a_i (x1), v2, v3] []) else none := by
  refine (X_aload_n (m := 190) (pc := 131) (n := 0) (by decide +kernel) rfl).trans ?_
  refine (X_ldcs (m := 190) (pc := 132) (n := 161) (q := 13) (by decide +kernel) (by decide +kernel) (by decide +kernel)).trans ?_
  refine (X_call_vi (m := 190) (pc := 134) (q := 155) (y := 186) (n := 2) (as := [a_r (r0), a_r (13)]) (rest := []) (by decide +kernel) (by decide +kernel) (by decide +kernel) (by decide +kernel) rfl rfl (Nat.le_of_ble_eq_true rfl) (Nat.le_of_ble_eq_true rfl) rfl (by rw [show m_maxL 186 = 3 from by decide +kernel]; exact Nat.le_of_ble_eq_true rfl)).trans ?_
  exact ite_congr (by simp [a_rcv, show m_recv 186 = 11 from by decide +kernel]) (fun _ => rfl) (fun _ => rfl)
theorem B_X11_reads_137 {k : Nat → Nat × Nat} {u : Nat → Nat → Int} {g : Nat → Nat → Nat} {t : Nat × Nat × Nat} {r0 : Nat} {x1 : Int} {v2 : AV} {v3 : AV} {y0 : Int} : a_X 190 137 [a_r (r0), a_i (x1), v2, v3] [a_i (y0)] (k, u, g, t) = if (y0 : Int) = 0 then if (k r0).1 = 11 then (a_m 186 [a_r (r0), a_r (15)] (k, u, g, t)).bind (a_back 190 150 3 [a_r (r0), a_i (x1), v2, v3] []) else none else if (k r0).1 = 11 then (a_m 188 [a_r (r0)] (k, u, g, t)).bind (a_back 190 141 3 [a_r (r0), a_i (x1), v2, v3] []) else none := by
  refine (X_if_eq (m := 190) (pc := 137) (off := 10) (tg := 147) (by decide +kernel) (by decide +kernel)).trans ?_
  refine ite_congr rfl (fun _ => ?_) (fun _ => ?_)
  · refine (X_aload_n (m := 190) (pc := 147) (n := 0) (by decide +kernel) rfl).trans ?_
    refine (X_ldcs (m := 190) (pc := 148) (n := 166) (q := 15) (by decide +kernel) (by decide +kernel) (by decide +kernel)).trans ?_
    refine (X_call_vi (m := 190) (pc := 150) (q := 155) (y := 186) (n := 2) (as := [a_r (r0), a_r (15)]) (rest := []) (by decide +kernel) (by decide +kernel) (by decide +kernel) (by decide +kernel) rfl rfl (Nat.le_of_ble_eq_true rfl) (Nat.le_of_ble_eq_true rfl) rfl (by rw [show m_maxL 186 = 3 from by decide +kernel]; exact Nat.le_of_ble_eq_true rfl)).trans ?_
    exact ite_congr (by simp [a_rcv, show m_recv 186 = 11 from by decide +kernel]) (fun _ => rfl) (fun _ => rfl)
  · refine (X_aload_n (m := 190) (pc := 140) (n := 0) (by decide +kernel) rfl).trans ?_
    refine (X_call_vi (m := 190) (pc := 141) (q := 163) (y := 188) (n := 1) (as := [a_r (r0)]) (rest := []) (by decide +kernel) (by decide +kernel) (by decide +kernel) (by decide +kernel) rfl rfl (Nat.le_of_ble_eq_true rfl) (Nat.le_of_ble_eq_true rfl) rfl (by rw [show m_maxL 188 = 8 from by decide +kernel]; exact Nat.le_of_ble_eq_true rfl)).trans ?_
    exact ite_congr (by simp [a_rcv, show m_recv 188 = 11 from by decide +kernel]) (fun _ => rfl) (fun _ => rfl)
theorem B_X11_reads_153 {k : Nat → Nat × Nat} {u : Nat → Nat → Int} {g : Nat → Nat → Nat} {t : Nat × Nat × Nat} {r0 : Nat} {x1 : Int} {v2 : AV} {v3 : AV} {y0 : Int} : a_X 190 153 [a_r (r0), a_i (x1), v2, v3] [a_i (y0)] (k, u, g, t) = if (y0 : Int) = 0 then if (k r0).1 = 11 then (a_m 183 [a_r (r0), a_i (1)] (k, u, g, t)).bind (a_back 190 165 3 [a_r (r0), a_i (x1), v2, v3] []) else none else if (k r0).1 = 11 then (a_m 189 [a_r (r0)] (k, u, g, t)).bind (a_back 190 157 3 [a_r (r0), a_i (x1), v2, v3] []) else none := by
  refine (X_if_eq (m := 190) (pc := 153) (off := 10) (tg := 163) (by decide +kernel) (by decide +kernel)).trans ?_
  refine ite_congr rfl (fun _ => ?_) (fun _ => ?_)
  · refine (X_aload_n (m := 190) (pc := 163) (n := 0) (by decide +kernel) rfl).trans ?_
    refine (X_iconst (m := 190) (pc := 164) (n := 1) (by decide +kernel) ).trans ?_
    refine (X_call_vi (m := 190) (pc := 165) (q := 123) (y := 183) (n := 2) (as := [a_r (r0), a_i (1)]) (rest := []) (by decide +kernel) (by decide +kernel) (by decide +kernel) (by decide +kernel) rfl rfl (Nat.le_of_ble_eq_true rfl) (Nat.le_of_ble_eq_true rfl) rfl (by rw [show m_maxL 183 = 2 from by decide +kernel]; exact Nat.le_of_ble_eq_true rfl)).trans ?_
    exact ite_congr (by simp [a_rcv, show m_recv 183 = 11 from by decide +kernel]) (fun _ => rfl) (fun _ => rfl)
  · refine (X_aload_n (m := 190) (pc := 156) (n := 0) (by decide +kernel) rfl).trans ?_
    refine (X_call_vi (m := 190) (pc := 157) (q := 168) (y := 189) (n := 1) (as := [a_r (r0)]) (rest := []) (by decide +kernel) (by decide +kernel) (by decide +kernel) (by decide +kernel) rfl rfl (Nat.le_of_ble_eq_true rfl) (Nat.le_of_ble_eq_true rfl) rfl (by rw [show m_maxL 189 = 6 from by decide +kernel]; exact Nat.le_of_ble_eq_true rfl)).trans ?_
    exact ite_congr (by simp [a_rcv, show m_recv 189 = 11 from by decide +kernel]) (fun _ => rfl) (fun _ => rfl)
theorem B_X11_reads_144 {k : Nat → Nat × Nat} {u : Nat → Nat → Int} {g : Nat → Nat → Nat} {t : Nat × Nat × Nat} {r0 : Nat} {x1 : Int} {v2 : AV} {v3 : AV} : a_X 190 144 [a_r (r0), a_i (x1), v2, v3] [] (k, u, g, t) = a_X 190 112 [a_r (r0), a_i (x1), v2, v3] [] (k, u, g, t) := by
  refine (X_goto (m := 190) (pc := 144) (off := -32) (tg := 112) (by decide +kernel) (by decide +kernel)).trans ?_
  rfl
theorem B_X11_reads_168 {k : Nat → Nat × Nat} {u : Nat → Nat → Int} {g : Nat → Nat → Nat} {t : Nat × Nat × Nat} {r0 : Nat} {x1 : Int} {v2 : AV} {v3 : AV} : a_X 190 168 [a_r (r0), a_i (x1), v2, v3] [] (k, u, g, t) = a_X 190 112 [a_r (r0), a_i (x1), v2, v3] [] (k, u, g, t) := by
  refine (X_goto (m := 190) (pc := 168) (off := -56) (tg := 112) (by decide +kernel) (by decide +kernel)).trans ?_
  rfl
theorem B_X11_reads_160 {k : Nat → Nat × Nat} {u : Nat → Nat → Int} {g : Nat → Nat → Nat} {t : Nat × Nat × Nat} {r0 : Nat} {x1 : Int} {v2 : AV} {v3 : AV} : a_X 190 160 [a_r (r0), a_i (x1), v2, v3] [] (k, u, g, t) = a_X 190 112 [a_r (r0), a_i (x1), v2, v3] [] (k, u, g, t) := by
  refine (X_goto (m := 190) (pc := 160) (off := -48) (tg := 112) (by decide +kernel) (by decide +kernel)).trans ?_
  rfl
theorem E_X11_load {σ : AS} {r0 : Nat} {x1 : Int} : a_m 191 [a_r (r0), a_i (x1)] σ = a_X 191 0 [a_r (r0), a_i (x1)] [] σ := a_m_eq (by rw [a_entry, show m_maxL 191 = 2 from by decide +kernel]; rfl)
theorem B_X11_load_0 {k : Nat → Nat × Nat} {u : Nat → Nat → Int} {g : Nat → Nat → Nat} {t : Nat × Nat × Nat} {r0 : Nat} {x1 : Int} : a_X 191 0 [a_r (r0), a_i (x1)] [] (k, u, g, t) = if (k r0).1 = 11 then if (k r0).1 = 11 then (a_m 155 [a_l (x1), a_l (0), a_l ((upm u r0 0 0) r0 7)] (k, (upm u r0 0 0), g, t)).bind (a_back 191 14 3 [a_r (r0), a_i (x1)] [a_r (r0)]) else none else none := by
  refine (X_aload_n (m := 191) (pc := 0) (n := 0) (by decide +kernel) rfl).trans ?_
  refine (X_iconst (m := 191) (pc := 1) (n := 0) (by decide +kernel) ).trans ?_
  refine (X_putI (m := 191) (pc := 2) (n := 46) (c := 11) (q := 0) (fi := false) (by decide +kernel) (by decide +kernel) (fun h => by cases h) (by decide +kernel)).trans ?_
  refine ite_congr rfl (fun _ => ?_) (fun _ => rfl)
  refine (X_aload_n (m := 191) (pc := 5) (n := 0) (by decide +kernel) rfl).trans ?_
  refine (X_iload_n (m := 191) (pc := 6) (n := 1) (by decide +kernel) rfl).trans ?_
  refine (X_i2l (m := 191) (pc := 7)  (by decide +kernel) ).trans ?_
  refine (X_lconst (m := 191) (pc := 8) (n := 0) (by decide +kernel) ).trans ?_
  refine (X_aload_n (m := 191) (pc := 9) (n := 0) (by decide +kernel) rfl).trans ?_
  refine (X_getI (m := 191) (pc := 10) (n := 86) (c := 11) (q := 7) (ty := 1) (fi := false) (by decide +kernel) (by decide +kernel) (by decide +kernel)).trans ?_
  refine ite_congr rfl (fun _ => ?_) (fun _ => rfl)
  refine (X_i2l (m := 191) (pc := 13)  (by decide +kernel) ).trans ?_
  refine (X_call_st (m := 191) (pc := 14) (q := 61) (y := 155) (n := 3) (as := [a_l (x1), a_l (0), a_l ((upm u r0 0 0) r0 7)]) (rest := [a_r (r0)]) (by decide +kernel) (by decide +kernel) (by decide +kernel) (by decide +kernel) rfl rfl (Nat.le_of_ble_eq_true rfl) (Nat.le_of_ble_eq_true rfl) rfl (by rw [show m_maxL 155 = 6 from by decide +kernel]; exact Nat.le_of_ble_eq_true rfl)).trans ?_
  exact if_pos rfl
theorem B_X11_load_17 {k : Nat → Nat × Nat} {u : Nat → Nat → Int} {g : Nat → Nat → Nat} {t : Nat × Nat × Nat} {r0 : Nat} {x1 : Int} {q0 : Nat} {y1 : Int} : a_X 191 17 [a_r (r0), a_i (x1)] [a_i (y1), a_r (q0)] (k, u, g, t) = if (y1 : Int) ≠ 0 then if (k q0).1 = 11 then (a_m 157 [a_r (q0), a_i (0), a_i (1)] (k, u, g, t)).bind (a_back 191 26 3 [a_r (r0), a_i (x1)] []) else none else if (k q0).1 = 11 then (a_m 157 [a_r (q0), a_i (1), a_i (1)] (k, u, g, t)).bind (a_back 191 26 3 [a_r (r0), a_i (x1)] []) else none := by
  refine (X_if_ne (m := 191) (pc := 17) (off := 7) (tg := 24) (by decide +kernel) (by decide +kernel)).trans ?_
  refine ite_congr rfl (fun _ => ?_) (fun _ => ?_)
  · refine (X_iconst (m := 191) (pc := 24) (n := 0) (by decide +kernel) ).trans ?_
    refine (X_iconst (m := 191) (pc := 25) (n := 1) (by decide +kernel) ).trans ?_
    refine (X_call_vi (m := 191) (pc := 26) (q := 53) (y := 157) (n := 3) (as := [a_r (q0), a_i (0), a_i (1)]) (rest := []) (by decide +kernel) (by decide +kernel) (by decide +kernel) (by decide +kernel) rfl rfl (Nat.le_of_ble_eq_true rfl) (Nat.le_of_ble_eq_true rfl) rfl (by rw [show m_maxL 157 = 3 from by decide +kernel]; exact Nat.le_of_ble_eq_true rfl)).trans ?_
    exact ite_congr (by simp [a_rcv, show m_recv 157 = 11 from by decide +kernel]) (fun _ => rfl) (fun _ => rfl)
  · refine (X_iconst (m := 191) (pc := 20) (n := 1) (by decide +kernel) ).trans ?_
    refine (X_goto (m := 191) (pc := 21) (off := 4) (tg := 25) (by decide +kernel) (by decide +kernel)).trans ?_
    refine (X_iconst (m := 191) (pc := 25) (n := 1) (by decide +kernel) ).trans ?_
    refine (X_call_vi (m := 191) (pc := 26) (q := 53) (y := 157) (n := 3) (as := [a_r (q0), a_i (1), a_i (1)]) (rest := []) (by decide +kernel) (by decide +kernel) (by decide +kernel) (by decide +kernel) rfl rfl (Nat.le_of_ble_eq_true rfl) (Nat.le_of_ble_eq_true rfl) rfl (by rw [show m_maxL 157 = 3 from by decide +kernel]; exact Nat.le_of_ble_eq_true rfl)).trans ?_
    exact ite_congr (by simp [a_rcv, show m_recv 157 = 11 from by decide +kernel]) (fun _ => rfl) (fun _ => rfl)
theorem B_X11_load_29 {k : Nat → Nat × Nat} {u : Nat → Nat → Int} {g : Nat → Nat → Nat} {t : Nat × Nat × Nat} {r0 : Nat} {x1 : Int} {y0 : Int} : a_X 191 29 [a_r (r0), a_i (x1)] [a_i (y0)] (k, u, g, t) = if (y0 : Int) = 0 then if (k r0).1 = 11 then if (k r0).1 = 11 then (a_m 163 [a_r (g r0 2), a_i (0), a_r (g r0 17), a_i (0)] (k, u, g, t)).bind (a_back 191 44 3 [a_r (r0), a_i (x1)] []) else none else none else some (.inl (some (a_i (0))), (k, u, g, t)) := by
  refine (X_if_eq (m := 191) (pc := 29) (off := 5) (tg := 34) (by decide +kernel) (by decide +kernel)).trans ?_
  refine ite_congr rfl (fun _ => ?_) (fun _ => ?_)
  · refine (X_aload_n (m := 191) (pc := 34) (n := 0) (by decide +kernel) rfl).trans ?_
    refine (X_getR (m := 191) (pc := 35) (n := 7) (c := 11) (q := 2) (fi := true) (by decide +kernel) (by decide +kernel)).trans ?_
    refine ite_congr rfl (fun _ => ?_) (fun _ => rfl)
    refine (X_iconst (m := 191) (pc := 38) (n := 0) (by decide +kernel) ).trans ?_
    refine (X_aload_n (m := 191) (pc := 39) (n := 0) (by decide +kernel) rfl).trans ?_
    refine (X_getR (m := 191) (pc := 40) (n := 28) (c := 11) (q := 17) (fi := true) (by decide +kernel) (by decide +kernel)).trans ?_
    refine ite_congr rfl (fun _ => ?_) (fun _ => rfl)
    refine (X_iconst (m := 191) (pc := 43) (n := 0) (by decide +kernel) ).trans ?_
    refine (X_call_st (m := 191) (pc := 44) (q := 171) (y := 163) (n := 4) (as := [a_r (g r0 2), a_i (0), a_r (g r0 17), a_i (0)]) (rest := []) (by decide +kernel) (by decide +kernel) (by decide +kernel) (by decide +kernel) rfl rfl (Nat.le_of_ble_eq_true rfl) (Nat.le_of_ble_eq_true rfl) rfl (by rw [show m_maxL 163 = 5 from by decide +kernel]; exact Nat.le_of_ble_eq_true rfl)).trans ?_
    exact if_pos rfl
  · refine (X_iconst (m := 191) (pc := 32) (n := 0) (by decide +kernel) ).trans ?_
    exact X_ireturn (m := 191) (pc := 33) (f := 1) (by decide +kernel) (by decide +kernel) rfl
theorem B_X11_load_47 {k : Nat → Nat × Nat} {u : Nat → Nat → Int} {g : Nat → Nat → Nat} {t : Nat × Nat × Nat} {r0 : Nat} {x1 : Int} : a_X 191 47 [a_r (r0), a_i (x1)] [] (k, u, g, t) = if (k r0).1 = 11 then if (k r0).1 = 11 then if (k r0).1 = 11 then if (k r0).1 = 11 then if (k r0).1 = 11 then if (k r0).1 = 11 then (a_m 182 [a_r (r0)] (k, (upm (upm (upm (upm (upm u r0 7 0) r0 10 x1) r0 11 0) r0 15 0) r0 16 (-1)), g, t)).bind (a_back 191 73 3 [a_r (r0), a_i (x1)] []) else none else none else none else none else none else none := by
  refine (X_aload_n (m := 191) (pc := 47) (n := 0) (by decide +kernel) rfl).trans ?_
  refine (X_iconst (m := 191) (pc := 48) (n := 0) (by decide +kernel) ).trans ?_
  refine (X_putI (m := 191) (pc := 49) (n := 86) (c := 11) (q := 7) (fi := false) (by decide +kernel) (by decide +kernel) (fun h => by cases h) (by decide +kernel)).trans ?_
  refine ite_congr rfl (fun _ => ?_) (fun _ => rfl)
  refine (X_aload_n (m := 191) (pc := 52) (n := 0) (by decide +kernel) rfl).trans ?_
  refine (X_iload_n (m := 191) (pc := 53) (n := 1) (by decide +kernel) rfl).trans ?_
  refine (X_putI (m := 191) (pc := 54) (n := 92) (c := 11) (q := 10) (fi := false) (by decide +kernel) (by decide +kernel) (fun h => by cases h) (by decide +kernel)).trans ?_
  refine ite_congr rfl (fun _ => ?_) (fun _ => rfl)
  refine (X_aload_n (m := 191) (pc := 57) (n := 0) (by decide +kernel) rfl).trans ?_
  refine (X_iconst (m := 191) (pc := 58) (n := 0) (by decide +kernel) ).trans ?_
  refine (X_putI (m := 191) (pc := 59) (n := 95) (c := 11) (q := 11) (fi := false) (by decide +kernel) (by decide +kernel) (fun h => by cases h) (by decide +kernel)).trans ?_
  refine ite_congr rfl (fun _ => ?_) (fun _ => rfl)
  refine (X_aload_n (m := 191) (pc := 62) (n := 0) (by decide +kernel) rfl).trans ?_
  refine (X_iconst (m := 191) (pc := 63) (n := 0) (by decide +kernel) ).trans ?_
  refine (X_putI (m := 191) (pc := 64) (n := 117) (c := 11) (q := 15) (fi := false) (by decide +kernel) (by decide +kernel) (fun h => by cases h) (by decide +kernel)).trans ?_
  refine ite_congr rfl (fun _ => ?_) (fun _ => rfl)
  refine (X_aload_n (m := 191) (pc := 67) (n := 0) (by decide +kernel) rfl).trans ?_
  refine (X_iconst (m := 191) (pc := 68) (n := -1) (by decide +kernel) ).trans ?_
  refine (X_putI (m := 191) (pc := 69) (n := 120) (c := 11) (q := 16) (fi := false) (by decide +kernel) (by decide +kernel) (fun h => by cases h) (by decide +kernel)).trans ?_
  refine ite_congr rfl (fun _ => ?_) (fun _ => rfl)
  refine (X_aload_n (m := 191) (pc := 72) (n := 0) (by decide +kernel) rfl).trans ?_
  refine (X_call_vi (m := 191) (pc := 73) (q := 127) (y := 182) (n := 1) (as := [a_r (r0)]) (rest := []) (by decide +kernel) (by decide +kernel) (by decide +kernel) (by decide +kernel) rfl rfl (Nat.le_of_ble_eq_true rfl) (Nat.le_of_ble_eq_true rfl) rfl (by rw [show m_maxL 182 = 2 from by decide +kernel]; exact Nat.le_of_ble_eq_true rfl)).trans ?_
  exact ite_congr (by simp [a_rcv, show m_recv 182 = 11 from by decide +kernel]) (fun _ => rfl) (fun _ => rfl)
theorem B_X11_load_76 {k : Nat → Nat × Nat} {u : Nat → Nat → Int} {g : Nat → Nat → Nat} {t : Nat × Nat × Nat} {r0 : Nat} {x1 : Int} : a_X 191 76 [a_r (r0), a_i (x1)] [] (k, u, g, t) = if (k r0).1 = 11 then (a_m 190 [a_r (r0)] (k, u, g, t)).bind (a_back 191 77 3 [a_r (r0), a_i (x1)] []) else none := by
  refine (X_aload_n (m := 191) (pc := 76) (n := 0) (by decide +kernel) rfl).trans ?_
  refine (X_call_vi (m := 191) (pc := 77) (q := 175) (y := 190) (n := 1) (as := [a_r (r0)]) (rest := []) (by decide +kernel) (by decide +kernel) (by decide +kernel) (by decide +kernel) rfl rfl (Nat.le_of_ble_eq_true rfl) (Nat.le_of_ble_eq_true rfl) rfl (by rw [show m_maxL 190 = 4 from by decide +kernel]; exact Nat.le_of_ble_eq_true rfl)).trans ?_
  exact ite_congr (by simp [a_rcv, show m_recv 190 = 11 from by decide +kernel]) (fun _ => rfl) (fun _ => rfl)
theorem B_X11_load_80 {k : Nat → Nat × Nat} {u : Nat → Nat → Int} {g : Nat → Nat → Nat} {t : Nat × Nat × Nat} {r0 : Nat} {x1 : Int} : a_X 191 80 [a_r (r0), a_i (x1)] [] (k, u, g, t) = if (k r0).1 = 11 then if (k r0).1 = 11 then if (k r0).1 = 11 then if ((upm u r0 8 (u r0 15)) r0 15 : Int) ≠ 0 then if (k r0).1 = 11 then if (k r0).1 = 11 then if (k r0).1 = 11 then if ((upm (upm u r0 8 (u r0 15)) r0 9 ((upm u r0 8 (u r0 15)) r0 16)) r0 15 : Int) = 0 then if (k r0).1 = 11 then (a_m 157 [a_r (r0), a_i (0), a_i (2)] (k, (upm (upm u r0 8 (u r0 15)) r0 9 ((upm u r0 8 (u r0 15)) r0 16)), g, t)).bind (a_back 191 121 3 [a_r (r0), a_i (x1)] []) else none else if (k r0).1 = 11 then (a_m 157 [a_r (r0), a_i (1), a_i (2)] (k, (upm (upm u r0 8 (u r0 15)) r0 9 ((upm u r0 8 (u r0 15)) r0 16)), g, t)).bind (a_back 191 121 3 [a_r (r0), a_i (x1)] []) else none else none else none else none else if (k r0).1 = 11 then if (k r0).1 = 11 then if ((upm (upm u r0 8 (u r0 15)) r0 9 (-1)) r0 15 : Int) = 0 then if (k r0).1 = 11 then (a_m 157 [a_r (r0), a_i (0), a_i (2)] (k, (upm (upm u r0 8 (u r0 15)) r0 9 (-1)), g, t)).bind (a_back 191 121 3 [a_r (r0), a_i (x1)] []) else none else if (k r0).1 = 11 then (a_m 157 [a_r (r0), a_i (1), a_i (2)] (k, (upm (upm u r0 8 (u r0 15)) r0 9 (-1)), g, t)).bind (a_back 191 121 3 [a_r (r0), a_i (x1)] []) else none else none else none else none else none else none := by
  refine (X_aload_n (m := 191) (pc := 80) (n := 0) (by decide +kernel) rfl).trans ?_
  refine (X_aload_n (m := 191) (pc := 81) (n := 0) (by decide +kernel) rfl).trans ?_
  refine (X_getI (m := 191) (pc := 82) (n := 117) (c := 11) (q := 15) (ty := 1) (fi := false) (by decide +kernel) (by decide +kernel) (by decide +kernel)).trans ?_
  refine ite_congr rfl (fun _ => ?_) (fun _ => rfl)
  refine (X_putI (m := 191) (pc := 85) (n := 89) (c := 11) (q := 8) (fi := false) (by decide +kernel) (by decide +kernel) (fun h => by cases h) (by decide +kernel)).trans ?_
  refine ite_congr rfl (fun _ => ?_) (fun _ => rfl)
  refine (X_aload_n (m := 191) (pc := 88) (n := 0) (by decide +kernel) rfl).trans ?_
  refine (X_aload_n (m := 191) (pc := 89) (n := 0) (by decide +kernel) rfl).trans ?_
  refine (X_getI (m := 191) (pc := 90) (n := 117) (c := 11) (q := 15) (ty := 1) (fi := false) (by decide +kernel) (by decide +kernel) (by decide +kernel)).trans ?_
  refine ite_congr rfl (fun _ => ?_) (fun _ => rfl)
  refine (X_if_ne (m := 191) (pc := 93) (off := 7) (tg := 100) (by decide +kernel) (by decide +kernel)).trans ?_
  refine ite_congr rfl (fun _ => ?_) (fun _ => ?_)
  · refine (X_aload_n (m := 191) (pc := 100) (n := 0) (by decide +kernel) rfl).trans ?_
    refine (X_getI (m := 191) (pc := 101) (n := 120) (c := 11) (q := 16) (ty := 1) (fi := false) (by decide +kernel) (by decide +kernel) (by decide +kernel)).trans ?_
    refine ite_congr rfl (fun _ => ?_) (fun _ => rfl)
    refine (X_putI (m := 191) (pc := 104) (n := 24) (c := 11) (q := 9) (fi := false) (by decide +kernel) (by decide +kernel) (fun h => by cases h) (by decide +kernel)).trans ?_
    refine ite_congr rfl (fun _ => ?_) (fun _ => rfl)
    refine (X_aload_n (m := 191) (pc := 107) (n := 0) (by decide +kernel) rfl).trans ?_
    refine (X_aload_n (m := 191) (pc := 108) (n := 0) (by decide +kernel) rfl).trans ?_
    refine (X_getI (m := 191) (pc := 109) (n := 117) (c := 11) (q := 15) (ty := 1) (fi := false) (by decide +kernel) (by decide +kernel) (by decide +kernel)).trans ?_
    refine ite_congr rfl (fun _ => ?_) (fun _ => rfl)
    refine (X_if_eq (m := 191) (pc := 112) (off := 7) (tg := 119) (by decide +kernel) (by decide +kernel)).trans ?_
    refine ite_congr rfl (fun _ => ?_) (fun _ => ?_)
    · refine (X_iconst (m := 191) (pc := 119) (n := 0) (by decide +kernel) ).trans ?_
      refine (X_iconst (m := 191) (pc := 120) (n := 2) (by decide +kernel) ).trans ?_
      refine (X_call_vi (m := 191) (pc := 121) (q := 53) (y := 157) (n := 3) (as := [a_r (r0), a_i (0), a_i (2)]) (rest := []) (by decide +kernel) (by decide +kernel) (by decide +kernel) (by decide +kernel) rfl rfl (Nat.le_of_ble_eq_true rfl) (Nat.le_of_ble_eq_true rfl) rfl (by rw [show m_maxL 157 = 3 from by decide +kernel]; exact Nat.le_of_ble_eq_true rfl)).trans ?_
      exact ite_congr (by simp [a_rcv, show m_recv 157 = 11 from by decide +kernel]) (fun _ => rfl) (fun _ => rfl)
    · refine (X_iconst (m := 191) (pc := 115) (n := 1) (by decide +kernel) ).trans ?_
      refine (X_goto (m := 191) (pc := 116) (off := 4) (tg := 120) (by decide +kernel) (by decide +kernel)).trans ?_
      refine (X_iconst (m := 191) (pc := 120) (n := 2) (by decide +kernel) ).trans ?_
      refine (X_call_vi (m := 191) (pc := 121) (q := 53) (y := 157) (n := 3) (as := [a_r (r0), a_i (1), a_i (2)]) (rest := []) (by decide +kernel) (by decide +kernel) (by decide +kernel) (by decide +kernel) rfl rfl (Nat.le_of_ble_eq_true rfl) (Nat.le_of_ble_eq_true rfl) rfl (by rw [show m_maxL 157 = 3 from by decide +kernel]; exact Nat.le_of_ble_eq_true rfl)).trans ?_
      exact ite_congr (by simp [a_rcv, show m_recv 157 = 11 from by decide +kernel]) (fun _ => rfl) (fun _ => rfl)
  · refine (X_iconst (m := 191) (pc := 96) (n := -1) (by decide +kernel) ).trans ?_
    refine (X_goto (m := 191) (pc := 97) (off := 7) (tg := 104) (by decide +kernel) (by decide +kernel)).trans ?_
    refine (X_putI (m := 191) (pc := 104) (n := 24) (c := 11) (q := 9) (fi := false) (by decide +kernel) (by decide +kernel) (fun h => by cases h) (by decide +kernel)).trans ?_
    refine ite_congr rfl (fun _ => ?_) (fun _ => rfl)
    refine (X_aload_n (m := 191) (pc := 107) (n := 0) (by decide +kernel) rfl).trans ?_
    refine (X_aload_n (m := 191) (pc := 108) (n := 0) (by decide +kernel) rfl).trans ?_
    refine (X_getI (m := 191) (pc := 109) (n := 117) (c := 11) (q := 15) (ty := 1) (fi := false) (by decide +kernel) (by decide +kernel) (by decide +kernel)).trans ?_
    refine ite_congr rfl (fun _ => ?_) (fun _ => rfl)
    refine (X_if_eq (m := 191) (pc := 112) (off := 7) (tg := 119) (by decide +kernel) (by decide +kernel)).trans ?_
    refine ite_congr rfl (fun _ => ?_) (fun _ => ?_)
    · refine (X_iconst (m := 191) (pc := 119) (n := 0) (by decide +kernel) ).trans ?_
      refine (X_iconst (m := 191) (pc := 120) (n := 2) (by decide +kernel) ).trans ?_
      refine (X_call_vi (m := 191) (pc := 121) (q := 53) (y := 157) (n := 3) (as := [a_r (r0), a_i (0), a_i (2)]) (rest := []) (by decide +kernel) (by decide +kernel) (by decide +kernel) (by decide +kernel) rfl rfl (Nat.le_of_ble_eq_true rfl) (Nat.le_of_ble_eq_true rfl) rfl (by rw [show m_maxL 157 = 3 from by decide +kernel]; exact Nat.le_of_ble_eq_true rfl)).trans ?_
      exact ite_congr (by simp [a_rcv, show m_recv 157 = 11 from by decide +kernel]) (fun _ => rfl) (fun _ => rfl)
    · refine (X_iconst (m := 191) (pc := 115) (n := 1) (by decide +kernel) ).trans ?_
      refine (X_goto (m := 191) (pc := 116) (off := 4) (tg := 120) (by decide +kernel) (by decide +kernel)).trans ?_
      refine (X_iconst (m := 191) (pc := 120) (n := 2) (by decide +kernel) ).trans ?_
      refine (X_call_vi (m := 191) (pc := 121) (q := 53) (y := 157) (n := 3) (as := [a_r (r0), a_i (1), a_i (2)]) (rest := []) (by decide +kernel) (by decide +kernel) (by decide +kernel) (by decide +kernel) rfl rfl (Nat.le_of_ble_eq_true rfl) (Nat.le_of_ble_eq_true rfl) rfl (by rw [show m_maxL 157 = 3 from by decide +kernel]; exact Nat.le_of_ble_eq_true rfl)).trans ?_
      exact ite_congr (by simp [a_rcv, show m_recv 157 = 11 from by decide +kernel]) (fun _ => rfl) (fun _ => rfl)
theorem B_X11_load_124 {k : Nat → Nat × Nat} {u : Nat → Nat → Int} {g : Nat → Nat → Nat} {t : Nat × Nat × Nat} {r0 : Nat} {x1 : Int} {y0 : Int} : a_X 191 124 [a_r (r0), a_i (x1)] [a_i (y0)] (k, u, g, t) = if (y0 : Int) = 0 then if (k r0).1 = 11 ∧ ((1 : Int) = 0 ∨ (1 : Int) = 1) then if (k r0).1 = 11 then if (k r0).1 = 11 then if (k (g r0 5)).1 = 21 ∧ (0 ≤ (0 : Int) ∧ (0 : Int) < ((k (g r0 5)).2 : Int)) ∧ ((0 : Int) = 0 ∨ (0 : Int) = 1) then if (k r0).1 = 11 then if (k (g r0 5)).1 = 21 ∧ (0 ≤ (1 : Int) ∧ (1 : Int) < ((k (g r0 5)).2 : Int)) ∧ ((0 : Int) = 0 ∨ (0 : Int) = 1) then if (k r0).1 = 11 then if ((k (g r0 2)).1 = 20 ∨ (k (g r0 2)).1 = 24) ∧ 0 ≤ (3 : Int) ∧ (3 : Int) < ((k (g r0 2)).2 : Int) then some (.inl (some (a_i ((upm (upm (upm (upm u r0 1 1) r0 4 0) (g r0 5) (0 : Int).toNat 0) (g r0 5) (1 : Int).toNat 0) (g r0 2) (3 : Int).toNat))), (k, (upm (upm (upm (upm u r0 1 1) r0 4 0) (g r0 5) (0 : Int).toNat 0) (g r0 5) (1 : Int).toNat 0), g, t)) else none else none else none else none else none else none else none else none else if (k r0).1 = 11 then if (k r0).1 = 11 then (a_m 163 [a_r (g r0 17), a_i (0), a_r (g r0 2), a_i (0)] (k, u, g, t)).bind (a_back 191 137 3 [a_r (r0), a_i (x1)] []) else none else none := by
  refine (X_if_eq (m := 191) (pc := 124) (off := 18) (tg := 142) (by decide +kernel) (by decide +kernel)).trans ?_
  refine ite_congr rfl (fun _ => ?_) (fun _ => ?_)
  · refine (X_aload_n (m := 191) (pc := 142) (n := 0) (by decide +kernel) rfl).trans ?_
    refine (X_iconst (m := 191) (pc := 143) (n := 1) (by decide +kernel) ).trans ?_
    refine (X_putZ (m := 191) (pc := 144) (n := 49) (c := 11) (q := 1) (fi := false) (by decide +kernel) (by decide +kernel) (fun h => by cases h) (by decide +kernel)).trans ?_
    refine ite_congr rfl (fun _ => ?_) (fun _ => rfl)
    refine (X_aload_n (m := 191) (pc := 147) (n := 0) (by decide +kernel) rfl).trans ?_
    refine (X_iconst (m := 191) (pc := 148) (n := 0) (by decide +kernel) ).trans ?_
    refine (X_putI (m := 191) (pc := 149) (n := 178) (c := 11) (q := 4) (fi := false) (by decide +kernel) (by decide +kernel) (fun h => by cases h) (by decide +kernel)).trans ?_
    refine ite_congr rfl (fun _ => ?_) (fun _ => rfl)
    refine (X_aload_n (m := 191) (pc := 152) (n := 0) (by decide +kernel) rfl).trans ?_
    refine (X_getR (m := 191) (pc := 153) (n := 17) (c := 11) (q := 5) (fi := true) (by decide +kernel) (by decide +kernel)).trans ?_
    refine ite_congr rfl (fun _ => ?_) (fun _ => rfl)
    refine (X_iconst (m := 191) (pc := 156) (n := 0) (by decide +kernel) ).trans ?_
    refine (X_iconst (m := 191) (pc := 157) (n := 0) (by decide +kernel) ).trans ?_
    refine (X_bastore (m := 191) (pc := 158)  (by decide +kernel) ).trans ?_
    refine ite_congr rfl (fun _ => ?_) (fun _ => rfl)
    refine (X_aload_n (m := 191) (pc := 159) (n := 0) (by decide +kernel) rfl).trans ?_
    refine (X_getR (m := 191) (pc := 160) (n := 17) (c := 11) (q := 5) (fi := true) (by decide +kernel) (by decide +kernel)).trans ?_
    refine ite_congr rfl (fun _ => ?_) (fun _ => rfl)
    refine (X_iconst (m := 191) (pc := 163) (n := 1) (by decide +kernel) ).trans ?_
    refine (X_iconst (m := 191) (pc := 164) (n := 0) (by decide +kernel) ).trans ?_
    refine (X_bastore (m := 191) (pc := 165)  (by decide +kernel) ).trans ?_
    refine ite_congr rfl (fun _ => ?_) (fun _ => rfl)
    refine (X_aload_n (m := 191) (pc := 166) (n := 0) (by decide +kernel) rfl).trans ?_
    refine (X_getR (m := 191) (pc := 167) (n := 7) (c := 11) (q := 2) (fi := true) (by decide +kernel) (by decide +kernel)).trans ?_
    refine ite_congr rfl (fun _ => ?_) (fun _ => rfl)
    refine (X_iconst (m := 191) (pc := 170) (n := 3) (by decide +kernel) ).trans ?_
    refine (X_iaload (m := 191) (pc := 171)  (by decide +kernel) ).trans ?_
    refine ite_congr rfl (fun _ => ?_) (fun _ => rfl)
    exact X_ireturn (m := 191) (pc := 172) (f := 1) (by decide +kernel) (by decide +kernel) rfl
  · refine (X_aload_n (m := 191) (pc := 127) (n := 0) (by decide +kernel) rfl).trans ?_
    refine (X_getR (m := 191) (pc := 128) (n := 28) (c := 11) (q := 17) (fi := true) (by decide +kernel) (by decide +kernel)).trans ?_
    refine ite_congr rfl (fun _ => ?_) (fun _ => rfl)
    refine (X_iconst (m := 191) (pc := 131) (n := 0) (by decide +kernel) ).trans ?_
    refine (X_aload_n (m := 191) (pc := 132) (n := 0) (by decide +kernel) rfl).trans ?_
    refine (X_getR (m := 191) (pc := 133) (n := 7) (c := 11) (q := 2) (fi := true) (by decide +kernel) (by decide +kernel)).trans ?_
    refine ite_congr rfl (fun _ => ?_) (fun _ => rfl)
    refine (X_iconst (m := 191) (pc := 136) (n := 0) (by decide +kernel) ).trans ?_
    refine (X_call_st (m := 191) (pc := 137) (q := 171) (y := 163) (n := 4) (as := [a_r (g r0 17), a_i (0), a_r (g r0 2), a_i (0)]) (rest := []) (by decide +kernel) (by decide +kernel) (by decide +kernel) (by decide +kernel) rfl rfl (Nat.le_of_ble_eq_true rfl) (Nat.le_of_ble_eq_true rfl) rfl (by rw [show m_maxL 163 = 5 from by decide +kernel]; exact Nat.le_of_ble_eq_true rfl)).trans ?_
    exact if_pos rfl
theorem B_X11_load_140 {k : Nat → Nat × Nat} {u : Nat → Nat → Int} {g : Nat → Nat → Nat} {t : Nat × Nat × Nat} {r0 : Nat} {x1 : Int} : a_X 191 140 [a_r (r0), a_i (x1)] [] (k, u, g, t) = some (.inl (some (a_i (0))), (k, u, g, t)) := by
  refine (X_iconst (m := 191) (pc := 140) (n := 0) (by decide +kernel) ).trans ?_
  exact X_ireturn (m := 191) (pc := 141) (f := 1) (by decide +kernel) (by decide +kernel) rfl
