/-! ===== fields, classes, constants (by wip/whole/gen_valid2.py) ===== -/
def m_kind (y : Nat) : Nat := if m_recv y = 0 then 0 else if m_init y = true then 2 else 1
def f_ty (t : Nat) (ft : FieldType) : Bool := match ft with
  | .int => t == 1
  | .boolean => t == 2
  | .object _ => t == 6
  | .array _ => t == 6
  | _ => false
def f_ok (q : Nat × (Nat × Nat × Nat × Bool)) : Prop :=
  (1 ≤ q.2.1 ∧ q.2.1 ≤ 11 ∧ q.2.2.1 < k_size (q.2.1 - 1) ∧ Jvm.Cond.fieldLink (o_name (q.1 / 10000)) (q.1 % 10000) (k_T (q.2.1 - 1) q.2.2.1).1 (k_T (q.2.1 - 1) q.2.2.1).2.1 (k_T (q.2.1 - 1) q.2.2.1).2.2.1 ∈ w_all ∧ (k_T (q.2.1 - 1) q.2.2.1).2.2.2 = q.2.2.2.2 ∧ f_ty q.2.2.2.1 (k_ty (q.2.1 - 1) q.2.2.1) = true) ∨
  (q.2.1 = 25 ∧ ((q.2.2.1 = 0 ∧ q.2.2.2.1 = 6 ∧ Jvm.Cond.fieldLink (o_name (q.1 / 10000)) (q.1 % 10000) "java/lang/String" "value" "[B" ∈ w_all) ∨ (q.2.2.1 = 1 ∧ q.2.2.2.1 = 8 ∧ Jvm.Cond.fieldLink (o_name (q.1 / 10000)) (q.1 % 10000) "java/lang/String" "coder" "B" ∈ w_all)))
set_option maxRecDepth 100000 in
theorem v_f0 : f_ok (11, (1, 0, 6, true)) := Or.inl ⟨by decide, by decide, by decide +kernel, w_in (i := 288) ⟨rfl, rfl⟩, rfl, rfl⟩
set_option maxRecDepth 100000 in
theorem v_f1 : f_ok (18, (1, 1, 1, false)) := Or.inl ⟨by decide, by decide, by decide +kernel, w_in (i := 290) ⟨rfl, rfl⟩, rfl, rfl⟩
set_option maxRecDepth 100000 in
theorem v_f2 : f_ok (26, (7, 0, 1, false)) := Or.inl ⟨by decide, by decide, by decide +kernel, w_in (i := 249) ⟨rfl, rfl⟩, rfl, rfl⟩
set_option maxRecDepth 100000 in
theorem v_f3 : f_ok (29, (7, 1, 1, false)) := Or.inl ⟨by decide, by decide, by decide +kernel, w_in (i := 254) ⟨rfl, rfl⟩, rfl, rfl⟩
set_option maxRecDepth 100000 in
theorem v_f4 : f_ok (40, (7, 5, 1, false)) := Or.inl ⟨by decide, by decide, by decide +kernel, w_in (i := 265) ⟨rfl, rfl⟩, rfl, rfl⟩
set_option maxRecDepth 100000 in
theorem v_f5 : f_ok (47, (7, 4, 1, false)) := Or.inl ⟨by decide, by decide, by decide +kernel, w_in (i := 262) ⟨rfl, rfl⟩, rfl, rfl⟩
set_option maxRecDepth 100000 in
theorem v_f6 : f_ok (10011, (2, 0, 6, true)) := Or.inl ⟨by decide, by decide, by decide +kernel, w_in (i := 403) ⟨rfl, rfl⟩, rfl, rfl⟩
set_option maxRecDepth 100000 in
theorem v_f7 : f_ok (10018, (2, 1, 1, false)) := Or.inl ⟨by decide, by decide, by decide +kernel, w_in (i := 404) ⟨rfl, rfl⟩, rfl, rfl⟩
set_option maxRecDepth 100000 in
theorem v_f8 : f_ok (10026, (2, 2, 1, false)) := Or.inl ⟨by decide, by decide, by decide +kernel, w_in (i := 405) ⟨rfl, rfl⟩, rfl, rfl⟩
set_option maxRecDepth 100000 in
theorem v_f9 : f_ok (20009, (3, 2, 6, true)) := Or.inl ⟨by decide, by decide, by decide +kernel, w_in (i := 312) ⟨rfl, rfl⟩, rfl, rfl⟩
set_option maxRecDepth 100000 in
theorem v_f10 : f_ok (20015, (3, 3, 6, true)) := Or.inl ⟨by decide, by decide, by decide +kernel, w_in (i := 314) ⟨rfl, rfl⟩, rfl, rfl⟩
set_option maxRecDepth 100000 in
theorem v_f11 : f_ok (20018, (3, 4, 6, true)) := Or.inl ⟨by decide, by decide, by decide +kernel, w_in (i := 316) ⟨rfl, rfl⟩, rfl, rfl⟩
set_option maxRecDepth 100000 in
theorem v_f12 : f_ok (20021, (3, 0, 1, false)) := Or.inl ⟨by decide, by decide, by decide +kernel, w_in (i := 305) ⟨rfl, rfl⟩, rfl, rfl⟩
set_option maxRecDepth 100000 in
theorem v_f13 : f_ok (20025, (3, 1, 1, false)) := Or.inl ⟨by decide, by decide, by decide +kernel, w_in (i := 309) ⟨rfl, rfl⟩, rfl, rfl⟩
set_option maxRecDepth 100000 in
theorem v_f14 : f_ok (20034, (3, 5, 1, false)) := Or.inl ⟨by decide, by decide, by decide +kernel, w_in (i := 318) ⟨rfl, rfl⟩, rfl, rfl⟩
set_option maxRecDepth 100000 in
theorem v_f15 : f_ok (20037, (3, 6, 1, false)) := Or.inl ⟨by decide, by decide, by decide +kernel, w_in (i := 321) ⟨rfl, rfl⟩, rfl, rfl⟩
set_option maxRecDepth 100000 in
theorem v_f16 : f_ok (20040, (3, 7, 1, false)) := Or.inl ⟨by decide, by decide, by decide +kernel, w_in (i := 324) ⟨rfl, rfl⟩, rfl, rfl⟩
set_option maxRecDepth 100000 in
theorem v_f17 : f_ok (20043, (3, 8, 1, false)) := Or.inl ⟨by decide, by decide, by decide +kernel, w_in (i := 327) ⟨rfl, rfl⟩, rfl, rfl⟩
set_option maxRecDepth 100000 in
theorem v_f18 : f_ok (20046, (3, 9, 1, false)) := Or.inl ⟨by decide, by decide, by decide +kernel, w_in (i := 329) ⟨rfl, rfl⟩, rfl, rfl⟩
set_option maxRecDepth 100000 in
theorem v_f19 : f_ok (20049, (7, 0, 1, false)) := Or.inl ⟨by decide, by decide, by decide +kernel, w_in (i := 250) ⟨rfl, rfl⟩, rfl, rfl⟩
set_option maxRecDepth 100000 in
theorem v_f20 : f_ok (20064, (7, 7, 6, true)) := Or.inl ⟨by decide, by decide, by decide +kernel, w_in (i := 270) ⟨rfl, rfl⟩, rfl, rfl⟩
set_option maxRecDepth 100000 in
theorem v_f21 : f_ok (20067, (7, 1, 1, false)) := Or.inl ⟨by decide, by decide, by decide +kernel, w_in (i := 255) ⟨rfl, rfl⟩, rfl, rfl⟩
set_option maxRecDepth 100000 in
theorem v_f22 : f_ok (30009, (4, 0, 6, true)) := Or.inl ⟨by decide, by decide, by decide +kernel, w_in (i := 420) ⟨rfl, rfl⟩, rfl, rfl⟩
set_option maxRecDepth 100000 in
theorem v_f23 : f_ok (30015, (4, 1, 6, true)) := Or.inl ⟨by decide, by decide, by decide +kernel, w_in (i := 422) ⟨rfl, rfl⟩, rfl, rfl⟩
set_option maxRecDepth 100000 in
theorem v_f24 : f_ok (30018, (4, 2, 6, true)) := Or.inl ⟨by decide, by decide, by decide +kernel, w_in (i := 424) ⟨rfl, rfl⟩, rfl, rfl⟩
set_option maxRecDepth 100000 in
theorem v_f25 : f_ok (30021, (4, 3, 6, true)) := Or.inl ⟨by decide, by decide, by decide +kernel, w_in (i := 426) ⟨rfl, rfl⟩, rfl, rfl⟩
set_option maxRecDepth 100000 in
theorem v_f26 : f_ok (30024, (4, 5, 6, true)) := Or.inl ⟨by decide, by decide, by decide +kernel, w_in (i := 429) ⟨rfl, rfl⟩, rfl, rfl⟩
set_option maxRecDepth 100000 in
theorem v_f27 : f_ok (30027, (4, 6, 1, false)) := Or.inl ⟨by decide, by decide, by decide +kernel, w_in (i := 430) ⟨rfl, rfl⟩, rfl, rfl⟩
set_option maxRecDepth 100000 in
theorem v_f28 : f_ok (30037, (9, 1, 6, true)) := Or.inl ⟨by decide, by decide, by decide +kernel, w_in (i := 199) ⟨rfl, rfl⟩, rfl, rfl⟩
set_option maxRecDepth 100000 in
theorem v_f29 : f_ok (30044, (4, 4, 1, false)) := Or.inl ⟨by decide, by decide, by decide +kernel, w_in (i := 427) ⟨rfl, rfl⟩, rfl, rfl⟩
set_option maxRecDepth 100000 in
theorem v_f30 : f_ok (30054, (9, 2, 6, true)) := Or.inl ⟨by decide, by decide, by decide +kernel, w_in (i := 203) ⟨rfl, rfl⟩, rfl, rfl⟩
set_option maxRecDepth 100000 in
theorem v_f31 : f_ok (30055, (9, 0, 6, true)) := Or.inl ⟨by decide, by decide, by decide +kernel, w_in (i := 196) ⟨rfl, rfl⟩, rfl, rfl⟩
set_option maxRecDepth 100000 in
theorem v_f32 : f_ok (30056, (9, 3, 6, true)) := Or.inl ⟨by decide, by decide, by decide +kernel, w_in (i := 206) ⟨rfl, rfl⟩, rfl, rfl⟩
set_option maxRecDepth 100000 in
theorem v_f33 : f_ok (40012, (5, 0, 6, true)) := Or.inl ⟨by decide, by decide, by decide +kernel, w_in (i := 353) ⟨rfl, rfl⟩, rfl, rfl⟩
set_option maxRecDepth 100000 in
theorem v_f34 : f_ok (40018, (5, 1, 6, true)) := Or.inl ⟨by decide, by decide, by decide +kernel, w_in (i := 356) ⟨rfl, rfl⟩, rfl, rfl⟩
set_option maxRecDepth 100000 in
theorem v_f35 : f_ok (40025, (5, 2, 6, true)) := Or.inl ⟨by decide, by decide, by decide +kernel, w_in (i := 358) ⟨rfl, rfl⟩, rfl, rfl⟩
set_option maxRecDepth 100000 in
theorem v_f36 : f_ok (40031, (5, 3, 6, true)) := Or.inl ⟨by decide, by decide, by decide +kernel, w_in (i := 360) ⟨rfl, rfl⟩, rfl, rfl⟩
set_option maxRecDepth 100000 in
theorem v_f37 : f_ok (40049, (5, 4, 1, false)) := Or.inl ⟨by decide, by decide, by decide +kernel, w_in (i := 363) ⟨rfl, rfl⟩, rfl, rfl⟩
set_option maxRecDepth 100000 in
theorem v_f38 : f_ok (40056, (5, 5, 1, false)) := Or.inl ⟨by decide, by decide, by decide +kernel, w_in (i := 366) ⟨rfl, rfl⟩, rfl, rfl⟩
set_option maxRecDepth 100000 in
theorem v_f39 : f_ok (40059, (5, 6, 1, false)) := Or.inl ⟨by decide, by decide, by decide +kernel, w_in (i := 369) ⟨rfl, rfl⟩, rfl, rfl⟩
set_option maxRecDepth 100000 in
theorem v_f40 : f_ok (40062, (5, 7, 1, false)) := Or.inl ⟨by decide, by decide, by decide +kernel, w_in (i := 371) ⟨rfl, rfl⟩, rfl, rfl⟩
set_option maxRecDepth 100000 in
theorem v_f41 : f_ok (40065, (5, 8, 1, false)) := Or.inl ⟨by decide, by decide, by decide +kernel, w_in (i := 373) ⟨rfl, rfl⟩, rfl, rfl⟩
set_option maxRecDepth 100000 in
theorem v_f42 : f_ok (40071, (1, 1, 1, false)) := Or.inl ⟨by decide, by decide, by decide +kernel, w_in (i := 291) ⟨rfl, rfl⟩, rfl, rfl⟩
set_option maxRecDepth 100000 in
theorem v_f43 : f_ok (40074, (3, 4, 6, true)) := Or.inl ⟨by decide, by decide, by decide +kernel, w_in (i := 317) ⟨rfl, rfl⟩, rfl, rfl⟩
set_option maxRecDepth 100000 in
theorem v_f44 : f_ok (40077, (9, 4, 6, true)) := Or.inl ⟨by decide, by decide, by decide +kernel, w_in (i := 208) ⟨rfl, rfl⟩, rfl, rfl⟩
set_option maxRecDepth 100000 in
theorem v_f45 : f_ok (40080, (9, 7, 1, false)) := Or.inl ⟨by decide, by decide, by decide +kernel, w_in (i := 216) ⟨rfl, rfl⟩, rfl, rfl⟩
set_option maxRecDepth 100000 in
theorem v_f46 : f_ok (40095, (7, 7, 6, true)) := Or.inl ⟨by decide, by decide, by decide +kernel, w_in (i := 269) ⟨rfl, rfl⟩, rfl, rfl⟩
set_option maxRecDepth 100000 in
theorem v_f47 : f_ok (40103, (3, 0, 1, false)) := Or.inl ⟨by decide, by decide, by decide +kernel, w_in (i := 307) ⟨rfl, rfl⟩, rfl, rfl⟩
set_option maxRecDepth 100000 in
theorem v_f48 : f_ok (40126, (1, 0, 6, true)) := Or.inl ⟨by decide, by decide, by decide +kernel, w_in (i := 289) ⟨rfl, rfl⟩, rfl, rfl⟩
set_option maxRecDepth 100000 in
theorem v_f49 : f_ok (40130, (7, 6, 6, true)) := Or.inl ⟨by decide, by decide, by decide +kernel, w_in (i := 267) ⟨rfl, rfl⟩, rfl, rfl⟩
set_option maxRecDepth 100000 in
theorem v_f50 : f_ok (40137, (3, 9, 1, false)) := Or.inl ⟨by decide, by decide, by decide +kernel, w_in (i := 330) ⟨rfl, rfl⟩, rfl, rfl⟩
set_option maxRecDepth 100000 in
theorem v_f51 : f_ok (40151, (9, 6, 6, true)) := Or.inl ⟨by decide, by decide, by decide +kernel, w_in (i := 214) ⟨rfl, rfl⟩, rfl, rfl⟩
set_option maxRecDepth 100000 in
theorem v_f52 : f_ok (40154, (7, 0, 1, false)) := Or.inl ⟨by decide, by decide, by decide +kernel, w_in (i := 252) ⟨rfl, rfl⟩, rfl, rfl⟩
set_option maxRecDepth 100000 in
theorem v_f53 : f_ok (40157, (3, 5, 1, false)) := Or.inl ⟨by decide, by decide, by decide +kernel, w_in (i := 319) ⟨rfl, rfl⟩, rfl, rfl⟩
set_option maxRecDepth 100000 in
theorem v_f54 : f_ok (40160, (3, 6, 1, false)) := Or.inl ⟨by decide, by decide, by decide +kernel, w_in (i := 322) ⟨rfl, rfl⟩, rfl, rfl⟩
set_option maxRecDepth 100000 in
theorem v_f55 : f_ok (40187, (3, 7, 1, false)) := Or.inl ⟨by decide, by decide, by decide +kernel, w_in (i := 326) ⟨rfl, rfl⟩, rfl, rfl⟩
set_option maxRecDepth 100000 in
theorem v_f56 : f_ok (50009, (6, 0, 6, true)) := Or.inl ⟨by decide, by decide, by decide +kernel, w_in (i := 144) ⟨rfl, rfl⟩, rfl, rfl⟩
set_option maxRecDepth 100000 in
theorem v_f57 : f_ok (50015, (6, 3, 1, false)) := Or.inl ⟨by decide, by decide, by decide +kernel, w_in (i := 149) ⟨rfl, rfl⟩, rfl, rfl⟩
set_option maxRecDepth 100000 in
theorem v_f58 : f_ok (50019, (6, 1, 1, false)) := Or.inl ⟨by decide, by decide, by decide +kernel, w_in (i := 145) ⟨rfl, rfl⟩, rfl, rfl⟩
set_option maxRecDepth 100000 in
theorem v_f59 : f_ok (50022, (6, 4, 1, false)) := Or.inl ⟨by decide, by decide, by decide +kernel, w_in (i := 151) ⟨rfl, rfl⟩, rfl, rfl⟩
set_option maxRecDepth 100000 in
theorem v_f60 : f_ok (50025, (6, 5, 1, false)) := Or.inl ⟨by decide, by decide, by decide +kernel, w_in (i := 152) ⟨rfl, rfl⟩, rfl, rfl⟩
set_option maxRecDepth 100000 in
theorem v_f61 : f_ok (50028, (6, 10, 1, false)) := Or.inl ⟨by decide, by decide, by decide +kernel, w_in (i := 157) ⟨rfl, rfl⟩, rfl, rfl⟩
set_option maxRecDepth 100000 in
theorem v_f62 : f_ok (50031, (6, 2, 1, false)) := Or.inl ⟨by decide, by decide, by decide +kernel, w_in (i := 148) ⟨rfl, rfl⟩, rfl, rfl⟩
set_option maxRecDepth 100000 in
theorem v_f63 : f_ok (50052, (6, 9, 1, false)) := Or.inl ⟨by decide, by decide, by decide +kernel, w_in (i := 156) ⟨rfl, rfl⟩, rfl, rfl⟩
set_option maxRecDepth 100000 in
theorem v_f64 : f_ok (50055, (5, 5, 1, false)) := Or.inl ⟨by decide, by decide, by decide +kernel, w_in (i := 367) ⟨rfl, rfl⟩, rfl, rfl⟩
set_option maxRecDepth 100000 in
theorem v_f65 : f_ok (50058, (6, 6, 1, false)) := Or.inl ⟨by decide, by decide, by decide +kernel, w_in (i := 153) ⟨rfl, rfl⟩, rfl, rfl⟩
set_option maxRecDepth 100000 in
theorem v_f66 : f_ok (50077, (5, 4, 1, false)) := Or.inl ⟨by decide, by decide, by decide +kernel, w_in (i := 365) ⟨rfl, rfl⟩, rfl, rfl⟩
set_option maxRecDepth 100000 in
theorem v_f67 : f_ok (50084, (5, 0, 6, true)) := Or.inl ⟨by decide, by decide, by decide +kernel, w_in (i := 354) ⟨rfl, rfl⟩, rfl, rfl⟩
set_option maxRecDepth 100000 in
theorem v_f68 : f_ok (50096, (5, 3, 6, true)) := Or.inl ⟨by decide, by decide, by decide +kernel, w_in (i := 361) ⟨rfl, rfl⟩, rfl, rfl⟩
set_option maxRecDepth 100000 in
theorem v_f69 : f_ok (50103, (3, 0, 1, false)) := Or.inl ⟨by decide, by decide, by decide +kernel, w_in (i := 306) ⟨rfl, rfl⟩, rfl, rfl⟩
set_option maxRecDepth 100000 in
theorem v_f70 : f_ok (50112, (3, 1, 1, false)) := Or.inl ⟨by decide, by decide, by decide +kernel, w_in (i := 310) ⟨rfl, rfl⟩, rfl, rfl⟩
set_option maxRecDepth 100000 in
theorem v_f71 : f_ok (50119, (6, 7, 1, false)) := Or.inl ⟨by decide, by decide, by decide +kernel, w_in (i := 154) ⟨rfl, rfl⟩, rfl, rfl⟩
set_option maxRecDepth 100000 in
theorem v_f72 : f_ok (50122, (6, 8, 1, false)) := Or.inl ⟨by decide, by decide, by decide +kernel, w_in (i := 155) ⟨rfl, rfl⟩, rfl, rfl⟩
set_option maxRecDepth 100000 in
theorem v_f73 : f_ok (60009, (7, 6, 6, true)) := Or.inl ⟨by decide, by decide, by decide +kernel, w_in (i := 266) ⟨rfl, rfl⟩, rfl, rfl⟩
set_option maxRecDepth 100000 in
theorem v_f74 : f_ok (60015, (7, 7, 6, true)) := Or.inl ⟨by decide, by decide, by decide +kernel, w_in (i := 268) ⟨rfl, rfl⟩, rfl, rfl⟩
set_option maxRecDepth 100000 in
theorem v_f75 : f_ok (60018, (7, 0, 1, false)) := Or.inl ⟨by decide, by decide, by decide +kernel, w_in (i := 248) ⟨rfl, rfl⟩, rfl, rfl⟩
set_option maxRecDepth 100000 in
theorem v_f76 : f_ok (60022, (7, 1, 1, false)) := Or.inl ⟨by decide, by decide, by decide +kernel, w_in (i := 253) ⟨rfl, rfl⟩, rfl, rfl⟩
set_option maxRecDepth 100000 in
theorem v_f77 : f_ok (60025, (7, 2, 1, false)) := Or.inl ⟨by decide, by decide, by decide +kernel, w_in (i := 257) ⟨rfl, rfl⟩, rfl, rfl⟩
set_option maxRecDepth 100000 in
theorem v_f78 : f_ok (60028, (7, 3, 1, false)) := Or.inl ⟨by decide, by decide, by decide +kernel, w_in (i := 259) ⟨rfl, rfl⟩, rfl, rfl⟩
set_option maxRecDepth 100000 in
theorem v_f79 : f_ok (60031, (7, 4, 1, false)) := Or.inl ⟨by decide, by decide, by decide +kernel, w_in (i := 261) ⟨rfl, rfl⟩, rfl, rfl⟩
set_option maxRecDepth 100000 in
theorem v_f80 : f_ok (60034, (7, 5, 1, false)) := Or.inl ⟨by decide, by decide, by decide +kernel, w_in (i := 264) ⟨rfl, rfl⟩, rfl, rfl⟩
set_option maxRecDepth 100000 in
theorem v_f81 : f_ok (70009, (8, 0, 6, true)) := Or.inl ⟨by decide, by decide, by decide +kernel, w_in (i := 453) ⟨rfl, rfl⟩, rfl, rfl⟩
set_option maxRecDepth 100000 in
theorem v_f82 : f_ok (70015, (8, 1, 1, false)) := Or.inl ⟨by decide, by decide, by decide +kernel, w_in (i := 455) ⟨rfl, rfl⟩, rfl, rfl⟩
set_option maxRecDepth 100000 in
theorem v_f83 : f_ok (80009, (9, 0, 6, true)) := Or.inl ⟨by decide, by decide, by decide +kernel, w_in (i := 194) ⟨rfl, rfl⟩, rfl, rfl⟩
set_option maxRecDepth 100000 in
theorem v_f84 : f_ok (80015, (9, 1, 6, true)) := Or.inl ⟨by decide, by decide, by decide +kernel, w_in (i := 198) ⟨rfl, rfl⟩, rfl, rfl⟩
set_option maxRecDepth 100000 in
theorem v_f85 : f_ok (80018, (9, 2, 6, true)) := Or.inl ⟨by decide, by decide, by decide +kernel, w_in (i := 201) ⟨rfl, rfl⟩, rfl, rfl⟩
set_option maxRecDepth 100000 in
theorem v_f86 : f_ok (80021, (9, 3, 6, true)) := Or.inl ⟨by decide, by decide, by decide +kernel, w_in (i := 204) ⟨rfl, rfl⟩, rfl, rfl⟩
set_option maxRecDepth 100000 in
theorem v_f87 : f_ok (80024, (9, 4, 6, true)) := Or.inl ⟨by decide, by decide, by decide +kernel, w_in (i := 207) ⟨rfl, rfl⟩, rfl, rfl⟩
set_option maxRecDepth 100000 in
theorem v_f88 : f_ok (80027, (9, 5, 6, true)) := Or.inl ⟨by decide, by decide, by decide +kernel, w_in (i := 210) ⟨rfl, rfl⟩, rfl, rfl⟩
set_option maxRecDepth 100000 in
theorem v_f89 : f_ok (80030, (9, 6, 6, true)) := Or.inl ⟨by decide, by decide, by decide +kernel, w_in (i := 212) ⟨rfl, rfl⟩, rfl, rfl⟩
set_option maxRecDepth 100000 in
theorem v_f90 : f_ok (80033, (9, 7, 1, false)) := Or.inl ⟨by decide, by decide, by decide +kernel, w_in (i := 215) ⟨rfl, rfl⟩, rfl, rfl⟩
set_option maxRecDepth 100000 in
theorem v_f91 : f_ok (90010, (10, 0, 6, true)) := Or.inl ⟨by decide, by decide, by decide +kernel, w_in (i := 462) ⟨rfl, rfl⟩, rfl, rfl⟩
set_option maxRecDepth 100000 in
theorem v_f92 : f_ok (90019, (10, 1, 6, true)) := Or.inl ⟨by decide, by decide, by decide +kernel, w_in (i := 463) ⟨rfl, rfl⟩, rfl, rfl⟩
set_option maxRecDepth 100000 in
theorem v_f93 : f_ok (90023, (10, 2, 6, true)) := Or.inl ⟨by decide, by decide, by decide +kernel, w_in (i := 464) ⟨rfl, rfl⟩, rfl, rfl⟩
set_option maxRecDepth 100000 in
theorem v_f94 : f_ok (90029, (10, 3, 6, true)) := Or.inl ⟨by decide, by decide, by decide +kernel, w_in (i := 465) ⟨rfl, rfl⟩, rfl, rfl⟩
set_option maxRecDepth 100000 in
theorem v_f95 : f_ok (90033, (10, 4, 6, true)) := Or.inl ⟨by decide, by decide, by decide +kernel, w_in (i := 466) ⟨rfl, rfl⟩, rfl, rfl⟩
set_option maxRecDepth 100000 in
theorem v_f96 : f_ok (90037, (10, 5, 6, true)) := Or.inl ⟨by decide, by decide, by decide +kernel, w_in (i := 467) ⟨rfl, rfl⟩, rfl, rfl⟩
set_option maxRecDepth 100000 in
theorem v_f97 : f_ok (90044, (10, 6, 6, true)) := Or.inl ⟨by decide, by decide, by decide +kernel, w_in (i := 468) ⟨rfl, rfl⟩, rfl, rfl⟩
set_option maxRecDepth 100000 in
theorem v_f98 : f_ok (90051, (10, 7, 6, true)) := Or.inl ⟨by decide, by decide, by decide +kernel, w_in (i := 469) ⟨rfl, rfl⟩, rfl, rfl⟩
set_option maxRecDepth 100000 in
theorem v_f99 : f_ok (90063, (6, 1, 1, false)) := Or.inl ⟨by decide, by decide, by decide +kernel, w_in (i := 146) ⟨rfl, rfl⟩, rfl, rfl⟩
set_option maxRecDepth 100000 in
theorem v_f100 : f_ok (90090, (10, 8, 2, false)) := Or.inl ⟨by decide, by decide, by decide +kernel, w_in (i := 470) ⟨rfl, rfl⟩, rfl, rfl⟩
set_option maxRecDepth 100000 in
theorem v_f101 : f_ok (90094, (5, 4, 1, false)) := Or.inl ⟨by decide, by decide, by decide +kernel, w_in (i := 364) ⟨rfl, rfl⟩, rfl, rfl⟩
set_option maxRecDepth 100000 in
theorem v_f102 : f_ok (90097, (6, 2, 1, false)) := Or.inl ⟨by decide, by decide, by decide +kernel, w_in (i := 147) ⟨rfl, rfl⟩, rfl, rfl⟩
set_option maxRecDepth 100000 in
theorem v_f103 : f_ok (90100, (6, 3, 1, false)) := Or.inl ⟨by decide, by decide, by decide +kernel, w_in (i := 150) ⟨rfl, rfl⟩, rfl, rfl⟩
set_option maxRecDepth 100000 in
theorem v_f104 : f_ok (90106, (5, 0, 6, true)) := Or.inl ⟨by decide, by decide, by decide +kernel, w_in (i := 355) ⟨rfl, rfl⟩, rfl, rfl⟩
set_option maxRecDepth 100000 in
theorem v_f105 : f_ok (90110, (5, 1, 6, true)) := Or.inl ⟨by decide, by decide, by decide +kernel, w_in (i := 357) ⟨rfl, rfl⟩, rfl, rfl⟩
set_option maxRecDepth 100000 in
theorem v_f106 : f_ok (90120, (5, 5, 1, false)) := Or.inl ⟨by decide, by decide, by decide +kernel, w_in (i := 368) ⟨rfl, rfl⟩, rfl, rfl⟩
set_option maxRecDepth 100000 in
theorem v_f107 : f_ok (90123, (5, 6, 1, false)) := Or.inl ⟨by decide, by decide, by decide +kernel, w_in (i := 370) ⟨rfl, rfl⟩, rfl, rfl⟩
set_option maxRecDepth 100000 in
theorem v_f108 : f_ok (90126, (9, 7, 1, false)) := Or.inl ⟨by decide, by decide, by decide +kernel, w_in (i := 217) ⟨rfl, rfl⟩, rfl, rfl⟩
set_option maxRecDepth 100000 in
theorem v_f109 : f_ok (90129, (5, 2, 6, true)) := Or.inl ⟨by decide, by decide, by decide +kernel, w_in (i := 359) ⟨rfl, rfl⟩, rfl, rfl⟩
set_option maxRecDepth 100000 in
theorem v_f110 : f_ok (90133, (1, 1, 1, false)) := Or.inl ⟨by decide, by decide, by decide +kernel, w_in (i := 292) ⟨rfl, rfl⟩, rfl, rfl⟩
set_option maxRecDepth 100000 in
theorem v_f111 : f_ok (90140, (5, 7, 1, false)) := Or.inl ⟨by decide, by decide, by decide +kernel, w_in (i := 372) ⟨rfl, rfl⟩, rfl, rfl⟩
set_option maxRecDepth 100000 in
theorem v_f112 : f_ok (90143, (5, 8, 1, false)) := Or.inl ⟨by decide, by decide, by decide +kernel, w_in (i := 374) ⟨rfl, rfl⟩, rfl, rfl⟩
set_option maxRecDepth 100000 in
theorem v_f113 : f_ok (90184, (7, 0, 1, false)) := Or.inl ⟨by decide, by decide, by decide +kernel, w_in (i := 251) ⟨rfl, rfl⟩, rfl, rfl⟩
set_option maxRecDepth 100000 in
theorem v_f114 : f_ok (90189, (7, 1, 1, false)) := Or.inl ⟨by decide, by decide, by decide +kernel, w_in (i := 256) ⟨rfl, rfl⟩, rfl, rfl⟩
set_option maxRecDepth 100000 in
theorem v_f115 : f_ok (90192, (7, 2, 1, false)) := Or.inl ⟨by decide, by decide, by decide +kernel, w_in (i := 258) ⟨rfl, rfl⟩, rfl, rfl⟩
set_option maxRecDepth 100000 in
theorem v_f116 : f_ok (90195, (7, 3, 1, false)) := Or.inl ⟨by decide, by decide, by decide +kernel, w_in (i := 260) ⟨rfl, rfl⟩, rfl, rfl⟩
set_option maxRecDepth 100000 in
theorem v_f117 : f_ok (90198, (7, 4, 1, false)) := Or.inl ⟨by decide, by decide, by decide +kernel, w_in (i := 263) ⟨rfl, rfl⟩, rfl, rfl⟩
set_option maxRecDepth 100000 in
theorem v_f118 : f_ok (90209, (9, 4, 6, true)) := Or.inl ⟨by decide, by decide, by decide +kernel, w_in (i := 209) ⟨rfl, rfl⟩, rfl, rfl⟩
set_option maxRecDepth 100000 in
theorem v_f119 : f_ok (90211, (9, 0, 6, true)) := Or.inl ⟨by decide, by decide, by decide +kernel, w_in (i := 197) ⟨rfl, rfl⟩, rfl, rfl⟩
set_option maxRecDepth 100000 in
theorem v_f120 : f_ok (90214, (9, 5, 6, true)) := Or.inl ⟨by decide, by decide, by decide +kernel, w_in (i := 211) ⟨rfl, rfl⟩, rfl, rfl⟩
set_option maxRecDepth 100000 in
theorem v_f121 : f_ok (90217, (9, 6, 6, true)) := Or.inl ⟨by decide, by decide, by decide +kernel, w_in (i := 213) ⟨rfl, rfl⟩, rfl, rfl⟩
set_option maxRecDepth 100000 in
theorem v_f122 : f_ok (90245, (4, 4, 1, false)) := Or.inl ⟨by decide, by decide, by decide +kernel, w_in (i := 428) ⟨rfl, rfl⟩, rfl, rfl⟩
set_option maxRecDepth 100000 in
theorem v_f123 : f_ok (90250, (5, 3, 6, true)) := Or.inl ⟨by decide, by decide, by decide +kernel, w_in (i := 362) ⟨rfl, rfl⟩, rfl, rfl⟩
set_option maxRecDepth 100000 in
theorem v_f124 : f_ok (90254, (3, 0, 1, false)) := Or.inl ⟨by decide, by decide, by decide +kernel, w_in (i := 308) ⟨rfl, rfl⟩, rfl, rfl⟩
set_option maxRecDepth 100000 in
theorem v_f125 : f_ok (90259, (3, 1, 1, false)) := Or.inl ⟨by decide, by decide, by decide +kernel, w_in (i := 311) ⟨rfl, rfl⟩, rfl, rfl⟩
set_option maxRecDepth 100000 in
theorem v_f126 : f_ok (90265, (3, 5, 1, false)) := Or.inl ⟨by decide, by decide, by decide +kernel, w_in (i := 320) ⟨rfl, rfl⟩, rfl, rfl⟩
set_option maxRecDepth 100000 in
theorem v_f127 : f_ok (90268, (3, 6, 1, false)) := Or.inl ⟨by decide, by decide, by decide +kernel, w_in (i := 323) ⟨rfl, rfl⟩, rfl, rfl⟩
set_option maxRecDepth 100000 in
theorem v_f128 : f_ok (90278, (3, 7, 1, false)) := Or.inl ⟨by decide, by decide, by decide +kernel, w_in (i := 325) ⟨rfl, rfl⟩, rfl, rfl⟩
set_option maxRecDepth 100000 in
theorem v_f129 : f_ok (90281, (3, 8, 1, false)) := Or.inl ⟨by decide, by decide, by decide +kernel, w_in (i := 328) ⟨rfl, rfl⟩, rfl, rfl⟩
set_option maxRecDepth 100000 in
theorem v_f130 : f_ok (90290, (3, 9, 1, false)) := Or.inl ⟨by decide, by decide, by decide +kernel, w_in (i := 331) ⟨rfl, rfl⟩, rfl, rfl⟩
set_option maxRecDepth 100000 in
theorem v_f131 : f_ok (90293, (3, 2, 6, true)) := Or.inl ⟨by decide, by decide, by decide +kernel, w_in (i := 313) ⟨rfl, rfl⟩, rfl, rfl⟩
set_option maxRecDepth 100000 in
theorem v_f132 : f_ok (90296, (3, 3, 6, true)) := Or.inl ⟨by decide, by decide, by decide +kernel, w_in (i := 315) ⟨rfl, rfl⟩, rfl, rfl⟩
set_option maxRecDepth 100000 in
theorem v_f133 : f_ok (90336, (4, 0, 6, true)) := Or.inl ⟨by decide, by decide, by decide +kernel, w_in (i := 421) ⟨rfl, rfl⟩, rfl, rfl⟩
set_option maxRecDepth 100000 in
theorem v_f134 : f_ok (90340, (4, 1, 6, true)) := Or.inl ⟨by decide, by decide, by decide +kernel, w_in (i := 423) ⟨rfl, rfl⟩, rfl, rfl⟩
set_option maxRecDepth 100000 in
theorem v_f135 : f_ok (90343, (4, 2, 6, true)) := Or.inl ⟨by decide, by decide, by decide +kernel, w_in (i := 425) ⟨rfl, rfl⟩, rfl, rfl⟩
set_option maxRecDepth 100000 in
theorem v_f136 : f_ok (90346, (8, 1, 1, false)) := Or.inl ⟨by decide, by decide, by decide +kernel, w_in (i := 456) ⟨rfl, rfl⟩, rfl, rfl⟩
set_option maxRecDepth 100000 in
theorem v_f137 : f_ok (90353, (8, 0, 6, true)) := Or.inl ⟨by decide, by decide, by decide +kernel, w_in (i := 454) ⟨rfl, rfl⟩, rfl, rfl⟩
set_option maxRecDepth 100000 in
theorem v_f138 : f_ok (90398, (2, 2, 1, false)) := Or.inl ⟨by decide, by decide, by decide +kernel, w_in (i := 406) ⟨rfl, rfl⟩, rfl, rfl⟩
set_option maxRecDepth 100000 in
theorem v_f139 : f_ok (100007, (11, 2, 6, true)) := Or.inl ⟨by decide, by decide, by decide +kernel, w_in (i := 1450) ⟨rfl, rfl⟩, rfl, rfl⟩
set_option maxRecDepth 100000 in
theorem v_f140 : f_ok (100014, (11, 3, 6, true)) := Or.inl ⟨by decide, by decide, by decide +kernel, w_in (i := 1451) ⟨rfl, rfl⟩, rfl, rfl⟩
set_option maxRecDepth 100000 in
theorem v_f141 : f_ok (100017, (11, 5, 6, true)) := Or.inl ⟨by decide, by decide, by decide +kernel, w_in (i := 1453) ⟨rfl, rfl⟩, rfl, rfl⟩
set_option maxRecDepth 100000 in
theorem v_f142 : f_ok (100021, (11, 6, 6, true)) := Or.inl ⟨by decide, by decide, by decide +kernel, w_in (i := 1454) ⟨rfl, rfl⟩, rfl, rfl⟩
set_option maxRecDepth 100000 in
theorem v_f143 : f_ok (100024, (11, 9, 1, false)) := Or.inl ⟨by decide, by decide, by decide +kernel, w_in (i := 1457) ⟨rfl, rfl⟩, rfl, rfl⟩
set_option maxRecDepth 100000 in
theorem v_f144 : f_ok (100028, (11, 17, 6, true)) := Or.inl ⟨by decide, by decide, by decide +kernel, w_in (i := 1465) ⟨rfl, rfl⟩, rfl, rfl⟩
set_option maxRecDepth 100000 in
theorem v_f145 : f_ok (100031, (11, 18, 6, true)) := Or.inl ⟨by decide, by decide, by decide +kernel, w_in (i := 1466) ⟨rfl, rfl⟩, rfl, rfl⟩
set_option maxRecDepth 100000 in
theorem v_f146 : f_ok (100034, (11, 19, 6, true)) := Or.inl ⟨by decide, by decide, by decide +kernel, w_in (i := 1467) ⟨rfl, rfl⟩, rfl, rfl⟩
set_option maxRecDepth 100000 in
theorem v_f147 : f_ok (100037, (11, 20, 6, true)) := Or.inl ⟨by decide, by decide, by decide +kernel, w_in (i := 1468) ⟨rfl, rfl⟩, rfl, rfl⟩
set_option maxRecDepth 100000 in
theorem v_f148 : f_ok (100040, (11, 21, 6, true)) := Or.inl ⟨by decide, by decide, by decide +kernel, w_in (i := 1469) ⟨rfl, rfl⟩, rfl, rfl⟩
set_option maxRecDepth 100000 in
theorem v_f149 : f_ok (100043, (11, 23, 6, true)) := Or.inl ⟨by decide, by decide, by decide +kernel, w_in (i := 1471) ⟨rfl, rfl⟩, rfl, rfl⟩
set_option maxRecDepth 100000 in
theorem v_f150 : f_ok (100046, (11, 0, 1, false)) := Or.inl ⟨by decide, by decide, by decide +kernel, w_in (i := 1448) ⟨rfl, rfl⟩, rfl, rfl⟩
set_option maxRecDepth 100000 in
theorem v_f151 : f_ok (100049, (11, 1, 2, false)) := Or.inl ⟨by decide, by decide, by decide +kernel, w_in (i := 1449) ⟨rfl, rfl⟩, rfl, rfl⟩
set_option maxRecDepth 100000 in
theorem v_f152 : f_ok (100086, (11, 7, 1, false)) := Or.inl ⟨by decide, by decide, by decide +kernel, w_in (i := 1455) ⟨rfl, rfl⟩, rfl, rfl⟩
set_option maxRecDepth 100000 in
theorem v_f153 : f_ok (100089, (11, 8, 1, false)) := Or.inl ⟨by decide, by decide, by decide +kernel, w_in (i := 1456) ⟨rfl, rfl⟩, rfl, rfl⟩
set_option maxRecDepth 100000 in
theorem v_f154 : f_ok (100092, (11, 10, 1, false)) := Or.inl ⟨by decide, by decide, by decide +kernel, w_in (i := 1458) ⟨rfl, rfl⟩, rfl, rfl⟩
set_option maxRecDepth 100000 in
theorem v_f155 : f_ok (100095, (11, 11, 1, false)) := Or.inl ⟨by decide, by decide, by decide +kernel, w_in (i := 1459) ⟨rfl, rfl⟩, rfl, rfl⟩
set_option maxRecDepth 100000 in
theorem v_f156 : f_ok (100102, (11, 12, 1, false)) := Or.inl ⟨by decide, by decide, by decide +kernel, w_in (i := 1460) ⟨rfl, rfl⟩, rfl, rfl⟩
set_option maxRecDepth 100000 in
theorem v_f157 : f_ok (100105, (11, 13, 1, false)) := Or.inl ⟨by decide, by decide, by decide +kernel, w_in (i := 1461) ⟨rfl, rfl⟩, rfl, rfl⟩
set_option maxRecDepth 100000 in
theorem v_f158 : f_ok (100114, (11, 14, 1, false)) := Or.inl ⟨by decide, by decide, by decide +kernel, w_in (i := 1462) ⟨rfl, rfl⟩, rfl, rfl⟩
set_option maxRecDepth 100000 in
theorem v_f159 : f_ok (100117, (11, 15, 1, false)) := Or.inl ⟨by decide, by decide, by decide +kernel, w_in (i := 1463) ⟨rfl, rfl⟩, rfl, rfl⟩
set_option maxRecDepth 100000 in
theorem v_f160 : f_ok (100120, (11, 16, 1, false)) := Or.inl ⟨by decide, by decide, by decide +kernel, w_in (i := 1464) ⟨rfl, rfl⟩, rfl, rfl⟩
set_option maxRecDepth 100000 in
theorem v_f161 : f_ok (100178, (11, 4, 1, false)) := Or.inl ⟨by decide, by decide, by decide +kernel, w_in (i := 1452) ⟨rfl, rfl⟩, rfl, rfl⟩
set_option maxRecDepth 100000 in
theorem v_f162 : f_ok (100322, (11, 22, 1, false)) := Or.inl ⟨by decide, by decide, by decide +kernel, w_in (i := 1470) ⟨rfl, rfl⟩, rfl, rfl⟩
set_option maxRecDepth 100000 in
theorem v_f163 : f_ok (100395, (11, 24, 1, false)) := Or.inl ⟨by decide, by decide, by decide +kernel, w_in (i := 1472) ⟨rfl, rfl⟩, rfl, rfl⟩
set_option maxRecDepth 100000 in
theorem v_f164 : f_ok (110019, (9, 0, 6, true)) := Or.inl ⟨by decide, by decide, by decide +kernel, w_in (i := 195) ⟨rfl, rfl⟩, rfl, rfl⟩
set_option maxRecDepth 100000 in
theorem v_f165 : f_ok (110023, (9, 1, 6, true)) := Or.inl ⟨by decide, by decide, by decide +kernel, w_in (i := 200) ⟨rfl, rfl⟩, rfl, rfl⟩
set_option maxRecDepth 100000 in
theorem v_f166 : f_ok (110026, (9, 2, 6, true)) := Or.inl ⟨by decide, by decide, by decide +kernel, w_in (i := 202) ⟨rfl, rfl⟩, rfl, rfl⟩
set_option maxRecDepth 100000 in
theorem v_f167 : f_ok (110034, (9, 3, 6, true)) := Or.inl ⟨by decide, by decide, by decide +kernel, w_in (i := 205) ⟨rfl, rfl⟩, rfl, rfl⟩
set_option maxRecDepth 100000 in
theorem v_f168 : f_ok (140009, (25, 0, 6, true)) := Or.inr ⟨rfl, Or.inl ⟨rfl, rfl, w_in (i := 2107) ⟨rfl, rfl⟩⟩⟩
set_option maxRecDepth 100000 in
theorem v_f169 : f_ok (140015, (25, 1, 8, true)) := Or.inr ⟨rfl, Or.inr ⟨rfl, rfl, w_in (i := 2108) ⟨rfl, rfl⟩⟩⟩
theorem v_fld_0 : ∀ q ∈ c_fldL_0, f_ok q := List.forall_mem_cons.mpr ⟨v_f0, List.forall_mem_cons.mpr ⟨v_f1, List.forall_mem_cons.mpr ⟨v_f2, List.forall_mem_cons.mpr ⟨v_f3, List.forall_mem_cons.mpr ⟨v_f4, List.forall_mem_cons.mpr ⟨v_f5, List.forall_mem_cons.mpr ⟨v_f6, List.forall_mem_cons.mpr ⟨v_f7, List.forall_mem_cons.mpr ⟨v_f8, List.forall_mem_cons.mpr ⟨v_f9, List.forall_mem_cons.mpr ⟨v_f10, List.forall_mem_cons.mpr ⟨v_f11, List.forall_mem_cons.mpr ⟨v_f12, List.forall_mem_cons.mpr ⟨v_f13, List.forall_mem_cons.mpr ⟨v_f14, List.forall_mem_cons.mpr ⟨v_f15, List.forall_mem_cons.mpr ⟨v_f16, List.forall_mem_cons.mpr ⟨v_f17, List.forall_mem_cons.mpr ⟨v_f18, List.forall_mem_cons.mpr ⟨v_f19, List.forall_mem_cons.mpr ⟨v_f20, List.forall_mem_cons.mpr ⟨v_f21, List.forall_mem_cons.mpr ⟨v_f22, List.forall_mem_cons.mpr ⟨v_f23, List.forall_mem_cons.mpr ⟨v_f24, List.forall_mem_cons.mpr ⟨v_f25, List.forall_mem_cons.mpr ⟨v_f26, List.forall_mem_cons.mpr ⟨v_f27, List.forall_mem_cons.mpr ⟨v_f28, List.forall_mem_cons.mpr ⟨v_f29, List.forall_mem_cons.mpr ⟨v_f30, List.forall_mem_cons.mpr ⟨v_f31, List.forall_mem_cons.mpr ⟨v_f32, List.forall_mem_cons.mpr ⟨v_f33, List.forall_mem_cons.mpr ⟨v_f34, List.forall_mem_cons.mpr ⟨v_f35, List.forall_mem_cons.mpr ⟨v_f36, List.forall_mem_cons.mpr ⟨v_f37, List.forall_mem_cons.mpr ⟨v_f38, List.forall_mem_cons.mpr ⟨v_f39, List.forall_mem_cons.mpr ⟨v_f40, List.forall_mem_cons.mpr ⟨v_f41, List.forall_mem_cons.mpr ⟨v_f42, List.forall_mem_cons.mpr ⟨v_f43, List.forall_mem_cons.mpr ⟨v_f44, List.forall_mem_cons.mpr ⟨v_f45, List.forall_mem_cons.mpr ⟨v_f46, List.forall_mem_cons.mpr ⟨v_f47, List.forall_mem_cons.mpr ⟨v_f48, List.forall_mem_cons.mpr ⟨v_f49, List.forall_mem_cons.mpr ⟨v_f50, List.forall_mem_cons.mpr ⟨v_f51, List.forall_mem_cons.mpr ⟨v_f52, List.forall_mem_cons.mpr ⟨v_f53, List.forall_mem_cons.mpr ⟨v_f54, List.forall_mem_cons.mpr ⟨v_f55, List.forall_mem_cons.mpr ⟨v_f56, List.forall_mem_cons.mpr ⟨v_f57, List.forall_mem_cons.mpr ⟨v_f58, List.forall_mem_cons.mpr ⟨v_f59, fun _ h => absurd h List.not_mem_nil⟩⟩⟩⟩⟩⟩⟩⟩⟩⟩⟩⟩⟩⟩⟩⟩⟩⟩⟩⟩⟩⟩⟩⟩⟩⟩⟩⟩⟩⟩⟩⟩⟩⟩⟩⟩⟩⟩⟩⟩⟩⟩⟩⟩⟩⟩⟩⟩⟩⟩⟩⟩⟩⟩⟩⟩⟩⟩⟩⟩
theorem v_fld_1 : ∀ q ∈ c_fldL_1, f_ok q := List.forall_mem_cons.mpr ⟨v_f60, List.forall_mem_cons.mpr ⟨v_f61, List.forall_mem_cons.mpr ⟨v_f62, List.forall_mem_cons.mpr ⟨v_f63, List.forall_mem_cons.mpr ⟨v_f64, List.forall_mem_cons.mpr ⟨v_f65, List.forall_mem_cons.mpr ⟨v_f66, List.forall_mem_cons.mpr ⟨v_f67, List.forall_mem_cons.mpr ⟨v_f68, List.forall_mem_cons.mpr ⟨v_f69, List.forall_mem_cons.mpr ⟨v_f70, List.forall_mem_cons.mpr ⟨v_f71, List.forall_mem_cons.mpr ⟨v_f72, List.forall_mem_cons.mpr ⟨v_f73, List.forall_mem_cons.mpr ⟨v_f74, List.forall_mem_cons.mpr ⟨v_f75, List.forall_mem_cons.mpr ⟨v_f76, List.forall_mem_cons.mpr ⟨v_f77, List.forall_mem_cons.mpr ⟨v_f78, List.forall_mem_cons.mpr ⟨v_f79, List.forall_mem_cons.mpr ⟨v_f80, List.forall_mem_cons.mpr ⟨v_f81, List.forall_mem_cons.mpr ⟨v_f82, List.forall_mem_cons.mpr ⟨v_f83, List.forall_mem_cons.mpr ⟨v_f84, List.forall_mem_cons.mpr ⟨v_f85, List.forall_mem_cons.mpr ⟨v_f86, List.forall_mem_cons.mpr ⟨v_f87, List.forall_mem_cons.mpr ⟨v_f88, List.forall_mem_cons.mpr ⟨v_f89, List.forall_mem_cons.mpr ⟨v_f90, List.forall_mem_cons.mpr ⟨v_f91, List.forall_mem_cons.mpr ⟨v_f92, List.forall_mem_cons.mpr ⟨v_f93, List.forall_mem_cons.mpr ⟨v_f94, List.forall_mem_cons.mpr ⟨v_f95, List.forall_mem_cons.mpr ⟨v_f96, List.forall_mem_cons.mpr ⟨v_f97, List.forall_mem_cons.mpr ⟨v_f98, List.forall_mem_cons.mpr ⟨v_f99, List.forall_mem_cons.mpr ⟨v_f100, List.forall_mem_cons.mpr ⟨v_f101, List.forall_mem_cons.mpr ⟨v_f102, List.forall_mem_cons.mpr ⟨v_f103, List.forall_mem_cons.mpr ⟨v_f104, List.forall_mem_cons.mpr ⟨v_f105, List.forall_mem_cons.mpr ⟨v_f106, List.forall_mem_cons.mpr ⟨v_f107, List.forall_mem_cons.mpr ⟨v_f108, List.forall_mem_cons.mpr ⟨v_f109, List.forall_mem_cons.mpr ⟨v_f110, List.forall_mem_cons.mpr ⟨v_f111, List.forall_mem_cons.mpr ⟨v_f112, List.forall_mem_cons.mpr ⟨v_f113, List.forall_mem_cons.mpr ⟨v_f114, List.forall_mem_cons.mpr ⟨v_f115, List.forall_mem_cons.mpr ⟨v_f116, List.forall_mem_cons.mpr ⟨v_f117, List.forall_mem_cons.mpr ⟨v_f118, List.forall_mem_cons.mpr ⟨v_f119, fun _ h => absurd h List.not_mem_nil⟩⟩⟩⟩⟩⟩⟩⟩⟩⟩⟩⟩⟩⟩⟩⟩⟩⟩⟩⟩⟩⟩⟩⟩⟩⟩⟩⟩⟩⟩⟩⟩⟩⟩⟩⟩⟩⟩⟩⟩⟩⟩⟩⟩⟩⟩⟩⟩⟩⟩⟩⟩⟩⟩⟩⟩⟩⟩⟩⟩
theorem v_fld_2 : ∀ q ∈ c_fldL_2, f_ok q := List.forall_mem_cons.mpr ⟨v_f120, List.forall_mem_cons.mpr ⟨v_f121, List.forall_mem_cons.mpr ⟨v_f122, List.forall_mem_cons.mpr ⟨v_f123, List.forall_mem_cons.mpr ⟨v_f124, List.forall_mem_cons.mpr ⟨v_f125, List.forall_mem_cons.mpr ⟨v_f126, List.forall_mem_cons.mpr ⟨v_f127, List.forall_mem_cons.mpr ⟨v_f128, List.forall_mem_cons.mpr ⟨v_f129, List.forall_mem_cons.mpr ⟨v_f130, List.forall_mem_cons.mpr ⟨v_f131, List.forall_mem_cons.mpr ⟨v_f132, List.forall_mem_cons.mpr ⟨v_f133, List.forall_mem_cons.mpr ⟨v_f134, List.forall_mem_cons.mpr ⟨v_f135, List.forall_mem_cons.mpr ⟨v_f136, List.forall_mem_cons.mpr ⟨v_f137, List.forall_mem_cons.mpr ⟨v_f138, List.forall_mem_cons.mpr ⟨v_f139, List.forall_mem_cons.mpr ⟨v_f140, List.forall_mem_cons.mpr ⟨v_f141, List.forall_mem_cons.mpr ⟨v_f142, List.forall_mem_cons.mpr ⟨v_f143, List.forall_mem_cons.mpr ⟨v_f144, List.forall_mem_cons.mpr ⟨v_f145, List.forall_mem_cons.mpr ⟨v_f146, List.forall_mem_cons.mpr ⟨v_f147, List.forall_mem_cons.mpr ⟨v_f148, List.forall_mem_cons.mpr ⟨v_f149, List.forall_mem_cons.mpr ⟨v_f150, List.forall_mem_cons.mpr ⟨v_f151, List.forall_mem_cons.mpr ⟨v_f152, List.forall_mem_cons.mpr ⟨v_f153, List.forall_mem_cons.mpr ⟨v_f154, List.forall_mem_cons.mpr ⟨v_f155, List.forall_mem_cons.mpr ⟨v_f156, List.forall_mem_cons.mpr ⟨v_f157, List.forall_mem_cons.mpr ⟨v_f158, List.forall_mem_cons.mpr ⟨v_f159, List.forall_mem_cons.mpr ⟨v_f160, List.forall_mem_cons.mpr ⟨v_f161, List.forall_mem_cons.mpr ⟨v_f162, List.forall_mem_cons.mpr ⟨v_f163, List.forall_mem_cons.mpr ⟨v_f164, List.forall_mem_cons.mpr ⟨v_f165, List.forall_mem_cons.mpr ⟨v_f166, List.forall_mem_cons.mpr ⟨v_f167, List.forall_mem_cons.mpr ⟨v_f168, List.forall_mem_cons.mpr ⟨v_f169, fun _ h => absurd h List.not_mem_nil⟩⟩⟩⟩⟩⟩⟩⟩⟩⟩⟩⟩⟩⟩⟩⟩⟩⟩⟩⟩⟩⟩⟩⟩⟩⟩⟩⟩⟩⟩⟩⟩⟩⟩⟩⟩⟩⟩⟩⟩⟩⟩⟩⟩⟩⟩⟩⟩⟩⟩
theorem v_fld : ∀ q ∈ c_fldL, f_ok q := (List.forall_mem_append.mpr ⟨v_fld_0, (List.forall_mem_append.mpr ⟨v_fld_1, v_fld_2⟩)⟩)
theorem c_fld_ok {o i : Nat} {x : Nat × Nat × Nat × Bool} (h : c_fld o i = some x) (hi : i < 10000) : f_ok (o * 10000 + i, x) := v_fld _ (a_lookup h)
def x_nameL : List String := ["", "java/lang/IllegalStateException", "java/lang/IndexOutOfBoundsException", "java/lang/IllegalArgumentException"]
def x_name (e : Nat) : String := x_nameL.getD e ""
def n_ok (q : Nat × (Nat ⊕ Nat)) : Prop := match q.2 with
  | .inl c => c < 11 ∧ Jvm.Cond.classLink (o_name (q.1 / 10000)) (q.1 % 10000) (k_name c) ∈ w_all ∧ Jvm.Cond.instantiable (k_name c) (k_size c) ∈ w_all ∧ Jvm.Cond.initialized (k_name c) ∈ w_all
  | .inr e => Jvm.Cond.classLink (o_name (q.1 / 10000)) (q.1 % 10000) (x_name e) ∈ w_all ∧ Jvm.Cond.initialized (x_name e) ∈ w_all
set_option maxRecDepth 100000 in
theorem v_n0 : n_ok (9, .inl 6) := ⟨by decide, w_in (i := 241) ⟨rfl, rfl⟩, w_in (i := 243) ⟨rfl, rfl⟩, w_in (i := 110) ⟨rfl, rfl⟩⟩
set_option maxRecDepth 100000 in
theorem v_n1 : n_ok (10009, .inl 4) := ⟨by decide, w_in (i := 400) ⟨rfl, rfl⟩, w_in (i := 183) ⟨rfl, rfl⟩, w_in (i := 107) ⟨rfl, rfl⟩⟩
set_option maxRecDepth 100000 in
theorem v_n2 : n_ok (40009, .inl 8) := ⟨by decide, w_in (i := 188) ⟨rfl, rfl⟩, w_in (i := 189) ⟨rfl, rfl⟩, w_in (i := 108) ⟨rfl, rfl⟩⟩
set_option maxRecDepth 100000 in
theorem v_n3 : n_ok (40022, .inl 0) := ⟨by decide, w_in (i := 235) ⟨rfl, rfl⟩, w_in (i := 236) ⟨rfl, rfl⟩, w_in (i := 109) ⟨rfl, rfl⟩⟩
set_option maxRecDepth 100000 in
theorem v_n4 : n_ok (40029, .inl 2) := ⟨by decide, w_in (i := 298) ⟨rfl, rfl⟩, w_in (i := 300) ⟨rfl, rfl⟩, w_in (i := 111) ⟨rfl, rfl⟩⟩
set_option maxRecDepth 100000 in
theorem v_n5 : n_ok (90007, .inl 5) := ⟨by decide, w_in (i := 138) ⟨rfl, rfl⟩, w_in (i := 139) ⟨rfl, rfl⟩, w_in (i := 106) ⟨rfl, rfl⟩⟩
set_option maxRecDepth 100000 in
theorem v_n6 : n_ok (90016, .inl 4) := ⟨by decide, w_in (i := 182) ⟨rfl, rfl⟩, w_in (i := 183) ⟨rfl, rfl⟩, w_in (i := 107) ⟨rfl, rfl⟩⟩
set_option maxRecDepth 100000 in
theorem v_n7 : n_ok (90026, .inl 1) := ⟨by decide, w_in (i := 394) ⟨rfl, rfl⟩, w_in (i := 395) ⟨rfl, rfl⟩, w_in (i := 112) ⟨rfl, rfl⟩⟩
set_option maxRecDepth 100000 in
theorem v_n8 : n_ok (90041, .inl 3) := ⟨by decide, w_in (i := 414) ⟨rfl, rfl⟩, w_in (i := 415) ⟨rfl, rfl⟩, w_in (i := 113) ⟨rfl, rfl⟩⟩
set_option maxRecDepth 100000 in
theorem v_n9 : n_ok (90048, .inl 7) := ⟨by decide, w_in (i := 447) ⟨rfl, rfl⟩, w_in (i := 448) ⟨rfl, rfl⟩, w_in (i := 114) ⟨rfl, rfl⟩⟩
set_option maxRecDepth 100000 in
theorem v_n10 : n_ok (90067, .inr 2) := ⟨w_in (i := 527) ⟨rfl, rfl⟩, w_in (i := 119) ⟨rfl, rfl⟩⟩
set_option maxRecDepth 100000 in
theorem v_n11 : n_ok (90078, .inr 3) := ⟨w_in (i := 718) ⟨rfl, rfl⟩, w_in (i := 124) ⟨rfl, rfl⟩⟩
set_option maxRecDepth 100000 in
theorem v_n12 : n_ok (90399, .inr 1) := ⟨w_in (i := 776) ⟨rfl, rfl⟩, w_in (i := 126) ⟨rfl, rfl⟩⟩
set_option maxRecDepth 100000 in
theorem v_n13 : n_ok (120008, .inl 9) := ⟨by decide, w_in (i := 130) ⟨rfl, rfl⟩, w_in (i := 131) ⟨rfl, rfl⟩, w_in (i := 105) ⟨rfl, rfl⟩⟩
set_option maxRecDepth 100000 in
theorem v_n14 : n_ok (120013, .inr 2) := ⟨w_in (i := 521) ⟨rfl, rfl⟩, w_in (i := 119) ⟨rfl, rfl⟩⟩
set_option maxRecDepth 100000 in
theorem v_n15 : n_ok (120015, .inr 3) := ⟨w_in (i := 522) ⟨rfl, rfl⟩, w_in (i := 124) ⟨rfl, rfl⟩⟩
set_option maxRecDepth 100000 in
theorem v_n16 : n_ok (120020, .inr 1) := ⟨w_in (i := 767) ⟨rfl, rfl⟩, w_in (i := 126) ⟨rfl, rfl⟩⟩
set_option maxRecDepth 100000 in
theorem v_n17 : n_ok (120169, .inl 10) := ⟨by decide, w_in (i := 1441) ⟨rfl, rfl⟩, w_in (i := 1442) ⟨rfl, rfl⟩, w_in (i := 115) ⟨rfl, rfl⟩⟩
theorem v_new : ∀ q ∈ c_newL, n_ok q := List.forall_mem_cons.mpr ⟨v_n0, List.forall_mem_cons.mpr ⟨v_n1, List.forall_mem_cons.mpr ⟨v_n2, List.forall_mem_cons.mpr ⟨v_n3, List.forall_mem_cons.mpr ⟨v_n4, List.forall_mem_cons.mpr ⟨v_n5, List.forall_mem_cons.mpr ⟨v_n6, List.forall_mem_cons.mpr ⟨v_n7, List.forall_mem_cons.mpr ⟨v_n8, List.forall_mem_cons.mpr ⟨v_n9, List.forall_mem_cons.mpr ⟨v_n10, List.forall_mem_cons.mpr ⟨v_n11, List.forall_mem_cons.mpr ⟨v_n12, List.forall_mem_cons.mpr ⟨v_n13, List.forall_mem_cons.mpr ⟨v_n14, List.forall_mem_cons.mpr ⟨v_n15, List.forall_mem_cons.mpr ⟨v_n16, List.forall_mem_cons.mpr ⟨v_n17, fun _ h => absurd h List.not_mem_nil⟩⟩⟩⟩⟩⟩⟩⟩⟩⟩⟩⟩⟩⟩⟩⟩⟩⟩
theorem c_new_ok {o i : Nat} {x : Nat ⊕ Nat} (h : c_new o i = some x) : n_ok (o * 10000 + i, x) := v_new _ (a_lookup h)
def i_ok (q : Nat × Int) : Prop := Jvm.Cond.constant (o_name (q.1 / 10000)) (q.1 % 10000) (Int32.ofInt q.2) ∈ w_all ∧ (Int32.ofInt q.2).toInt = q.2
set_option maxRecDepth 100000 in
theorem v_i0 : i_ok (130265, 1431655765) := ⟨w_in (i := 1245) ⟨rfl, rfl⟩, by decide +kernel⟩
set_option maxRecDepth 100000 in
theorem v_i1 : i_ok (130266, 858993459) := ⟨w_in (i := 1246) ⟨rfl, rfl⟩, by decide +kernel⟩
set_option maxRecDepth 100000 in
theorem v_i2 : i_ok (130267, 252645135) := ⟨w_in (i := 1247) ⟨rfl, rfl⟩, by decide +kernel⟩
set_option maxRecDepth 100000 in
theorem v_i3 : i_ok (100013, 36080) := ⟨w_in (i := 1447) ⟨rfl, rfl⟩, by decide +kernel⟩
set_option maxRecDepth 100000 in
theorem v_i4 : i_ok (100369, 32800) := ⟨w_in (i := 1870) ⟨rfl, rfl⟩, by decide +kernel⟩
theorem v_int : ∀ q ∈ c_intL, i_ok q := List.forall_mem_cons.mpr ⟨v_i0, List.forall_mem_cons.mpr ⟨v_i1, List.forall_mem_cons.mpr ⟨v_i2, List.forall_mem_cons.mpr ⟨v_i3, List.forall_mem_cons.mpr ⟨v_i4, fun _ h => absurd h List.not_mem_nil⟩⟩⟩⟩⟩
theorem c_int_ok {o i : Nat} {x : Int} (h : c_int o i = some x) : i_ok (o * 10000 + i, x) := v_int _ (a_lookup h)
def l_ok (q : Nat × Int) : Prop := Jvm.Cond.constantLong (o_name (q.1 / 10000)) (q.1 % 10000) (Int64.ofInt q.2) ∈ w_all ∧ (Int64.ofInt q.2).toInt = q.2
set_option maxRecDepth 100000 in
theorem v_l0 : l_ok (100067, 11) := ⟨w_in (i := 1629) ⟨rfl, rfl⟩, by decide +kernel⟩
set_option maxRecDepth 100000 in
theorem v_l1 : l_ok (100065, -1) := ⟨w_in (i := 1677) ⟨rfl, rfl⟩, by decide +kernel⟩
set_option maxRecDepth 100000 in
theorem v_l2 : l_ok (100286, 4) := ⟨w_in (i := 1681) ⟨rfl, rfl⟩, by decide +kernel⟩
set_option maxRecDepth 100000 in
theorem v_l3 : l_ok (100288, 5) := ⟨w_in (i := 1686) ⟨rfl, rfl⟩, by decide +kernel⟩
set_option maxRecDepth 100000 in
theorem v_l4 : l_ok (100189, 2) := ⟨w_in (i := 1704) ⟨rfl, rfl⟩, by decide +kernel⟩
set_option maxRecDepth 100000 in
theorem v_l5 : l_ok (100191, 1000000) := ⟨w_in (i := 1705) ⟨rfl, rfl⟩, by decide +kernel⟩
set_option maxRecDepth 100000 in
theorem v_l6 : l_ok (100306, 29) := ⟨w_in (i := 1738) ⟨rfl, rfl⟩, by decide +kernel⟩
set_option maxRecDepth 100000 in
theorem v_l7 : l_ok (100069, 6) := ⟨w_in (i := 1758) ⟨rfl, rfl⟩, by decide +kernel⟩
set_option maxRecDepth 100000 in
theorem v_l8 : l_ok (100314, 1439) := ⟨w_in (i := 1759) ⟨rfl, rfl⟩, by decide +kernel⟩
set_option maxRecDepth 100000 in
theorem v_l9 : l_ok (100340, 3) := ⟨w_in (i := 1801) ⟨rfl, rfl⟩, by decide +kernel⟩
set_option maxRecDepth 100000 in
theorem v_l10 : l_ok (100379, 200) := ⟨w_in (i := 1959) ⟨rfl, rfl⟩, by decide +kernel⟩
set_option maxRecDepth 100000 in
theorem v_l11 : l_ok (100390, 99) := ⟨w_in (i := 1988) ⟨rfl, rfl⟩, by decide +kernel⟩
set_option maxRecDepth 100000 in
theorem v_l12 : l_ok (100409, 1438) := ⟨w_in (i := 2032) ⟨rfl, rfl⟩, by decide +kernel⟩
set_option maxRecDepth 100000 in
theorem v_l13 : l_ok (100404, 20) := ⟨w_in (i := 2040) ⟨rfl, rfl⟩, by decide +kernel⟩
set_option maxRecDepth 100000 in
theorem v_l14 : l_ok (100423, 60) := ⟨w_in (i := 2065) ⟨rfl, rfl⟩, by decide +kernel⟩
set_option maxRecDepth 100000 in
theorem v_l15 : l_ok (100425, 9999) := ⟨w_in (i := 2070) ⟨rfl, rfl⟩, by decide +kernel⟩
set_option maxRecDepth 100000 in
theorem v_l16 : l_ok (100427, 9) := ⟨w_in (i := 2079) ⟨rfl, rfl⟩, by decide +kernel⟩
theorem v_long : ∀ q ∈ c_longL, l_ok q := List.forall_mem_cons.mpr ⟨v_l0, List.forall_mem_cons.mpr ⟨v_l1, List.forall_mem_cons.mpr ⟨v_l2, List.forall_mem_cons.mpr ⟨v_l3, List.forall_mem_cons.mpr ⟨v_l4, List.forall_mem_cons.mpr ⟨v_l5, List.forall_mem_cons.mpr ⟨v_l6, List.forall_mem_cons.mpr ⟨v_l7, List.forall_mem_cons.mpr ⟨v_l8, List.forall_mem_cons.mpr ⟨v_l9, List.forall_mem_cons.mpr ⟨v_l10, List.forall_mem_cons.mpr ⟨v_l11, List.forall_mem_cons.mpr ⟨v_l12, List.forall_mem_cons.mpr ⟨v_l13, List.forall_mem_cons.mpr ⟨v_l14, List.forall_mem_cons.mpr ⟨v_l15, List.forall_mem_cons.mpr ⟨v_l16, fun _ h => absurd h List.not_mem_nil⟩⟩⟩⟩⟩⟩⟩⟩⟩⟩⟩⟩⟩⟩⟩⟩⟩
theorem c_long_ok {o i : Nat} {x : Int} (h : c_long o i = some x) : l_ok (o * 10000 + i, x) := v_long _ (a_lookup h)
set_option maxRecDepth 100000 in
theorem w_oi : Jvm.Cond.instanceMethod objectInit ∈ w_all := w_in (i := 136) ⟨rfl, rfl⟩
set_option maxRecDepth 100000 in
theorem w_oc : Jvm.Cond.code objectInit ⟨#[0xb1]⟩ 1 none ∈ w_all := w_in (i := 137) ⟨rfl, rfl⟩
set_option maxRecDepth 100000 in
theorem w_an : Jvm.Cond.native arraycopyName ∈ w_all := w_in (i := 744) ⟨rfl, rfl⟩
set_option maxRecDepth 100000 in
theorem w_as : Jvm.Cond.static arraycopyName ∈ w_all := w_in (i := 743) ⟨rfl, rfl⟩
set_option maxRecDepth 100000 in
theorem w_ai : Jvm.Cond.initialized "java/lang/System" ∈ w_all := w_in (i := 125) ⟨rfl, rfl⟩
set_option maxRecDepth 100000 in
theorem w_maxs : Jvm.Cond.static Lib.Math.max.name ∈ w_all := w_in (i := 952) ⟨rfl, rfl⟩
set_option maxRecDepth 100000 in
theorem w_maxc : Jvm.Cond.code Lib.Math.max.name Lib.Math.max.code 2 (some .int) ∈ w_all := w_in (i := 953) ⟨rfl, rfl⟩
set_option maxRecDepth 100000 in
theorem w_mins : Jvm.Cond.static Lib.Math.min.name ∈ w_all := w_in (i := 924) ⟨rfl, rfl⟩
set_option maxRecDepth 100000 in
theorem w_minc : Jvm.Cond.code Lib.Math.min.name Lib.Math.min.code 2 (some .int) ∈ w_all := w_in (i := 925) ⟨rfl, rfl⟩
set_option maxRecDepth 100000 in
theorem w_mi : Jvm.Cond.initialized "java/lang/Math" ∈ w_all := w_in (i := 127) ⟨rfl, rfl⟩
set_option maxRecDepth 100000 in
theorem w_na_int : Jvm.Cond.arrayClass .int ∈ w_all := w_in (i := 181) ⟨rfl, rfl⟩
set_option maxRecDepth 100000 in
theorem w_na_boolean : Jvm.Cond.arrayClass .boolean ∈ w_all := w_in (i := 446) ⟨rfl, rfl⟩
set_option maxRecDepth 100000 in
theorem w_na_long : Jvm.Cond.arrayClass .long ∈ w_all := w_in (i := 2104) ⟨rfl, rfl⟩
set_option maxRecDepth 100000 in
theorem w_na_double : Jvm.Cond.arrayClass .double ∈ w_all := w_in (i := 2105) ⟨rfl, rfl⟩
set_option maxRecDepth 100000 in
theorem k_ws_0 : ∀ w ∈ u_ws (k_name 0) (k_T 0) (k_size 0), w ∈ w_all := List.forall_mem_cons.mpr ⟨w_in (i := 293) ⟨rfl, rfl⟩, List.forall_mem_cons.mpr ⟨w_in (i := 295) ⟨rfl, rfl⟩, fun _ h => absurd h List.not_mem_nil⟩⟩
set_option maxRecDepth 100000 in
theorem k_ws_1 : ∀ w ∈ u_ws (k_name 1) (k_T 1) (k_size 1), w ∈ w_all := List.forall_mem_cons.mpr ⟨w_in (i := 407) ⟨rfl, rfl⟩, List.forall_mem_cons.mpr ⟨w_in (i := 409) ⟨rfl, rfl⟩, List.forall_mem_cons.mpr ⟨w_in (i := 411) ⟨rfl, rfl⟩, fun _ h => absurd h List.not_mem_nil⟩⟩⟩
set_option maxRecDepth 100000 in
theorem k_ws_2 : ∀ w ∈ u_ws (k_name 2) (k_T 2) (k_size 2), w ∈ w_all := List.forall_mem_cons.mpr ⟨w_in (i := 332) ⟨rfl, rfl⟩, List.forall_mem_cons.mpr ⟨w_in (i := 334) ⟨rfl, rfl⟩, List.forall_mem_cons.mpr ⟨w_in (i := 336) ⟨rfl, rfl⟩, List.forall_mem_cons.mpr ⟨w_in (i := 338) ⟨rfl, rfl⟩, List.forall_mem_cons.mpr ⟨w_in (i := 340) ⟨rfl, rfl⟩, List.forall_mem_cons.mpr ⟨w_in (i := 342) ⟨rfl, rfl⟩, List.forall_mem_cons.mpr ⟨w_in (i := 344) ⟨rfl, rfl⟩, List.forall_mem_cons.mpr ⟨w_in (i := 346) ⟨rfl, rfl⟩, List.forall_mem_cons.mpr ⟨w_in (i := 348) ⟨rfl, rfl⟩, List.forall_mem_cons.mpr ⟨w_in (i := 350) ⟨rfl, rfl⟩, fun _ h => absurd h List.not_mem_nil⟩⟩⟩⟩⟩⟩⟩⟩⟩⟩
set_option maxRecDepth 100000 in
theorem k_ws_3 : ∀ w ∈ u_ws (k_name 3) (k_T 3) (k_size 3), w ∈ w_all := List.forall_mem_cons.mpr ⟨w_in (i := 431) ⟨rfl, rfl⟩, List.forall_mem_cons.mpr ⟨w_in (i := 433) ⟨rfl, rfl⟩, List.forall_mem_cons.mpr ⟨w_in (i := 435) ⟨rfl, rfl⟩, List.forall_mem_cons.mpr ⟨w_in (i := 437) ⟨rfl, rfl⟩, List.forall_mem_cons.mpr ⟨w_in (i := 439) ⟨rfl, rfl⟩, List.forall_mem_cons.mpr ⟨w_in (i := 441) ⟨rfl, rfl⟩, List.forall_mem_cons.mpr ⟨w_in (i := 443) ⟨rfl, rfl⟩, fun _ h => absurd h List.not_mem_nil⟩⟩⟩⟩⟩⟩⟩
set_option maxRecDepth 100000 in
theorem k_ws_4 : ∀ w ∈ u_ws (k_name 4) (k_T 4) (k_size 4), w ∈ w_all := List.forall_mem_cons.mpr ⟨w_in (i := 375) ⟨rfl, rfl⟩, List.forall_mem_cons.mpr ⟨w_in (i := 377) ⟨rfl, rfl⟩, List.forall_mem_cons.mpr ⟨w_in (i := 379) ⟨rfl, rfl⟩, List.forall_mem_cons.mpr ⟨w_in (i := 381) ⟨rfl, rfl⟩, List.forall_mem_cons.mpr ⟨w_in (i := 383) ⟨rfl, rfl⟩, List.forall_mem_cons.mpr ⟨w_in (i := 385) ⟨rfl, rfl⟩, List.forall_mem_cons.mpr ⟨w_in (i := 387) ⟨rfl, rfl⟩, List.forall_mem_cons.mpr ⟨w_in (i := 389) ⟨rfl, rfl⟩, List.forall_mem_cons.mpr ⟨w_in (i := 391) ⟨rfl, rfl⟩, fun _ h => absurd h List.not_mem_nil⟩⟩⟩⟩⟩⟩⟩⟩⟩
set_option maxRecDepth 100000 in
theorem k_ws_5 : ∀ w ∈ u_ws (k_name 5) (k_T 5) (k_size 5), w ∈ w_all := List.forall_mem_cons.mpr ⟨w_in (i := 158) ⟨rfl, rfl⟩, List.forall_mem_cons.mpr ⟨w_in (i := 160) ⟨rfl, rfl⟩, List.forall_mem_cons.mpr ⟨w_in (i := 162) ⟨rfl, rfl⟩, List.forall_mem_cons.mpr ⟨w_in (i := 164) ⟨rfl, rfl⟩, List.forall_mem_cons.mpr ⟨w_in (i := 166) ⟨rfl, rfl⟩, List.forall_mem_cons.mpr ⟨w_in (i := 168) ⟨rfl, rfl⟩, List.forall_mem_cons.mpr ⟨w_in (i := 170) ⟨rfl, rfl⟩, List.forall_mem_cons.mpr ⟨w_in (i := 172) ⟨rfl, rfl⟩, List.forall_mem_cons.mpr ⟨w_in (i := 174) ⟨rfl, rfl⟩, List.forall_mem_cons.mpr ⟨w_in (i := 176) ⟨rfl, rfl⟩, List.forall_mem_cons.mpr ⟨w_in (i := 178) ⟨rfl, rfl⟩, fun _ h => absurd h List.not_mem_nil⟩⟩⟩⟩⟩⟩⟩⟩⟩⟩⟩
set_option maxRecDepth 100000 in
theorem k_ws_6 : ∀ w ∈ u_ws (k_name 6) (k_T 6) (k_size 6), w ∈ w_all := List.forall_mem_cons.mpr ⟨w_in (i := 271) ⟨rfl, rfl⟩, List.forall_mem_cons.mpr ⟨w_in (i := 273) ⟨rfl, rfl⟩, List.forall_mem_cons.mpr ⟨w_in (i := 275) ⟨rfl, rfl⟩, List.forall_mem_cons.mpr ⟨w_in (i := 277) ⟨rfl, rfl⟩, List.forall_mem_cons.mpr ⟨w_in (i := 279) ⟨rfl, rfl⟩, List.forall_mem_cons.mpr ⟨w_in (i := 281) ⟨rfl, rfl⟩, List.forall_mem_cons.mpr ⟨w_in (i := 283) ⟨rfl, rfl⟩, List.forall_mem_cons.mpr ⟨w_in (i := 285) ⟨rfl, rfl⟩, fun _ h => absurd h List.not_mem_nil⟩⟩⟩⟩⟩⟩⟩⟩
set_option maxRecDepth 100000 in
theorem k_ws_7 : ∀ w ∈ u_ws (k_name 7) (k_T 7) (k_size 7), w ∈ w_all := List.forall_mem_cons.mpr ⟨w_in (i := 457) ⟨rfl, rfl⟩, List.forall_mem_cons.mpr ⟨w_in (i := 459) ⟨rfl, rfl⟩, fun _ h => absurd h List.not_mem_nil⟩⟩
set_option maxRecDepth 100000 in
theorem k_ws_8 : ∀ w ∈ u_ws (k_name 8) (k_T 8) (k_size 8), w ∈ w_all := List.forall_mem_cons.mpr ⟨w_in (i := 218) ⟨rfl, rfl⟩, List.forall_mem_cons.mpr ⟨w_in (i := 220) ⟨rfl, rfl⟩, List.forall_mem_cons.mpr ⟨w_in (i := 222) ⟨rfl, rfl⟩, List.forall_mem_cons.mpr ⟨w_in (i := 224) ⟨rfl, rfl⟩, List.forall_mem_cons.mpr ⟨w_in (i := 226) ⟨rfl, rfl⟩, List.forall_mem_cons.mpr ⟨w_in (i := 228) ⟨rfl, rfl⟩, List.forall_mem_cons.mpr ⟨w_in (i := 230) ⟨rfl, rfl⟩, List.forall_mem_cons.mpr ⟨w_in (i := 232) ⟨rfl, rfl⟩, fun _ h => absurd h List.not_mem_nil⟩⟩⟩⟩⟩⟩⟩⟩
set_option maxRecDepth 100000 in
theorem k_ws_9 : ∀ w ∈ u_ws (k_name 9) (k_T 9) (k_size 9), w ∈ w_all := List.forall_mem_cons.mpr ⟨w_in (i := 471) ⟨rfl, rfl⟩, List.forall_mem_cons.mpr ⟨w_in (i := 473) ⟨rfl, rfl⟩, List.forall_mem_cons.mpr ⟨w_in (i := 475) ⟨rfl, rfl⟩, List.forall_mem_cons.mpr ⟨w_in (i := 477) ⟨rfl, rfl⟩, List.forall_mem_cons.mpr ⟨w_in (i := 479) ⟨rfl, rfl⟩, List.forall_mem_cons.mpr ⟨w_in (i := 481) ⟨rfl, rfl⟩, List.forall_mem_cons.mpr ⟨w_in (i := 483) ⟨rfl, rfl⟩, List.forall_mem_cons.mpr ⟨w_in (i := 485) ⟨rfl, rfl⟩, List.forall_mem_cons.mpr ⟨w_in (i := 487) ⟨rfl, rfl⟩, fun _ h => absurd h List.not_mem_nil⟩⟩⟩⟩⟩⟩⟩⟩⟩
set_option maxRecDepth 100000 in
theorem k_ws_10 : ∀ w ∈ u_ws (k_name 10) (k_T 10) (k_size 10), w ∈ w_all := List.forall_mem_cons.mpr ⟨w_in (i := 1473) ⟨rfl, rfl⟩, List.forall_mem_cons.mpr ⟨w_in (i := 1475) ⟨rfl, rfl⟩, List.forall_mem_cons.mpr ⟨w_in (i := 1477) ⟨rfl, rfl⟩, List.forall_mem_cons.mpr ⟨w_in (i := 1479) ⟨rfl, rfl⟩, List.forall_mem_cons.mpr ⟨w_in (i := 1481) ⟨rfl, rfl⟩, List.forall_mem_cons.mpr ⟨w_in (i := 1483) ⟨rfl, rfl⟩, List.forall_mem_cons.mpr ⟨w_in (i := 1485) ⟨rfl, rfl⟩, List.forall_mem_cons.mpr ⟨w_in (i := 1487) ⟨rfl, rfl⟩, List.forall_mem_cons.mpr ⟨w_in (i := 1489) ⟨rfl, rfl⟩, List.forall_mem_cons.mpr ⟨w_in (i := 1491) ⟨rfl, rfl⟩, List.forall_mem_cons.mpr ⟨w_in (i := 1493) ⟨rfl, rfl⟩, List.forall_mem_cons.mpr ⟨w_in (i := 1495) ⟨rfl, rfl⟩, List.forall_mem_cons.mpr ⟨w_in (i := 1497) ⟨rfl, rfl⟩, List.forall_mem_cons.mpr ⟨w_in (i := 1499) ⟨rfl, rfl⟩, List.forall_mem_cons.mpr ⟨w_in (i := 1501) ⟨rfl, rfl⟩, List.forall_mem_cons.mpr ⟨w_in (i := 1503) ⟨rfl, rfl⟩, List.forall_mem_cons.mpr ⟨w_in (i := 1505) ⟨rfl, rfl⟩, List.forall_mem_cons.mpr ⟨w_in (i := 1507) ⟨rfl, rfl⟩, List.forall_mem_cons.mpr ⟨w_in (i := 1509) ⟨rfl, rfl⟩, List.forall_mem_cons.mpr ⟨w_in (i := 1511) ⟨rfl, rfl⟩, List.forall_mem_cons.mpr ⟨w_in (i := 1513) ⟨rfl, rfl⟩, List.forall_mem_cons.mpr ⟨w_in (i := 1515) ⟨rfl, rfl⟩, List.forall_mem_cons.mpr ⟨w_in (i := 1517) ⟨rfl, rfl⟩, List.forall_mem_cons.mpr ⟨w_in (i := 1519) ⟨rfl, rfl⟩, List.forall_mem_cons.mpr ⟨w_in (i := 1521) ⟨rfl, rfl⟩, fun _ h => absurd h List.not_mem_nil⟩⟩⟩⟩⟩⟩⟩⟩⟩⟩⟩⟩⟩⟩⟩⟩⟩⟩⟩⟩⟩⟩⟩⟩⟩
theorem k_ws : ∀ c, c < 11 → ∀ w ∈ u_ws (k_name c) (k_T c) (k_size c), w ∈ w_all := fun c h => match c, h with
  | 0, _ => k_ws_0
  | 1, _ => k_ws_1
  | 2, _ => k_ws_2
  | 3, _ => k_ws_3
  | 4, _ => k_ws_4
  | 5, _ => k_ws_5
  | 6, _ => k_ws_6
  | 7, _ => k_ws_7
  | 8, _ => k_ws_8
  | 9, _ => k_ws_9
  | 10, _ => k_ws_10
  | k + 11, h => absurd h (by omega)
theorem k_cl : ∀ c, c < 11 → vwCl[c]? = some (k_name c, k_T c, k_size c) := fun c h => match c, h with
  | 0, _ => rfl
  | 1, _ => rfl
  | 2, _ => rfl
  | 3, _ => rfl
  | 4, _ => rfl
  | 5, _ => rfl
  | 6, _ => rfl
  | 7, _ => rfl
  | 8, _ => rfl
  | 9, _ => rfl
  | 10, _ => rfl
  | k + 11, h => absurd h (by omega)
theorem k_ty_ok : ∀ c, c < 11 → ∀ k, k < k_size c → parseFieldDescriptor (k_T c k).2.2.1 = some (k_ty c k) := fun c h => match c, h with
  | 0, _ => tyX0_ok
  | 1, _ => tyX1_ok
  | 2, _ => tyX2_ok
  | 3, _ => tyX3_ok
  | 4, _ => tyX4_ok
  | 5, _ => tyX5_ok
  | 6, _ => tyX6_ok
  | 7, _ => tyX7_ok
  | 8, _ => tyX8_ok
  | 9, _ => tyX10_ok
  | 10, _ => tyX11_ok
  | k + 11, h => absurd h (by omega)
theorem k_nm : ∀ c, c < 11 → ∀ a, a < k_size c → ∀ b, b < k_size c → a ≠ b → (k_T c a).2.1 ≠ (k_T c b).2.1 := fun c h => match c, h with
  | 0, _ => nmX0
  | 1, _ => nmX1
  | 2, _ => nmX2
  | 3, _ => nmX3
  | 4, _ => nmX4
  | 5, _ => nmX5
  | 6, _ => nmX6
  | 7, _ => nmX7
  | 8, _ => nmX8
  | 9, _ => nmX10
  | 10, _ => nmX11
  | k + 11, h => absurd h (by omega)
def f_kn (ft : FieldType) : Bool := match ft with
  | .int | .boolean | .object _ | .array _ => true
  | _ => false
theorem k_kn : ∀ c, c < 11 → ∀ k, k < k_size c → f_kn (k_ty c k) = true := by decide +kernel
