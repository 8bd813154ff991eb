/-! ===== calls (by wip/whole/gen_valid2.py) ===== -/
def x_nest : List (Nat × Nat × String) := [(90009, 52, "BookmobileRadio"), (40011, 78, "BookmobileRadio"), (17, 67, "BookmobileRadio"), (40035, 14, "BookmobileRadio"), (90043, 22, "BookmobileRadio"), (90050, 73, "BookmobileRadio")]
def c_ok (q : Nat × Nat) : Prop :=
  (q.2 < 1000 ∧ q.2 < 359 ∧ q.2 ≠ 350 ∧ Jvm.Cond.initialized (m_name q.2).cls ∈ w_all ∧ (plainName (m_name q.2).cls = true) ∧ ((m_name q.2).cls ≠ "java/lang/invoke/MethodHandle" ∧ (m_name q.2).cls ≠ "java/lang/invoke/VarHandle") ∧
    ((m_kind q.2 = 0 ∧ (parseMethodDescriptor (m_name q.2).desc).map (fun d => d.parameters.length) = some (m_nargs q.2) ∧ Jvm.Cond.methodLink (o_name (q.1 / 10000)) (q.1 % 10000) (m_name q.2) ∈ w_all ∧ Jvm.Cond.static (m_name q.2) ∈ w_all) ∨
     (m_kind q.2 = 1 ∧ (parseMethodDescriptor (m_name q.2).desc).map (fun d => d.parameters.length + 1) = some (m_nargs q.2) ∧ Jvm.Cond.methodLink (o_name (q.1 / 10000)) (q.1 % 10000) (m_name q.2) ∈ w_all ∧ Jvm.Cond.instanceMethod (m_name q.2) ∈ w_all ∧ Jvm.Cond.selects (m_name q.2).cls (m_name q.2) (m_name q.2) ∈ w_all ∧ ((1 ≤ m_recv q.2 ∧ m_recv q.2 ≤ 11 ∧ (m_name q.2).cls = k_name (m_recv q.2 - 1)) ∨ (m_recv q.2 = 25 ∧ (m_name q.2).cls = "java/lang/String"))) ∨
     (m_kind q.2 = 2 ∧ (m_name q.2).name = "<init>" ∧ m_retT q.2 = none ∧ (parseMethodDescriptor (m_name q.2).desc).map (fun d => d.parameters.length + 1) = some (m_nargs q.2) ∧ Jvm.Cond.instanceMethod (m_name q.2) ∈ w_all ∧ (Jvm.Cond.methodLink (o_name (q.1 / 10000)) (q.1 % 10000) (m_name q.2) ∈ w_all ∨ ∃ host, (q.1, q.2, host) ∈ x_nest)))) ∨
  (q.2 = 1000 ∧ Jvm.Cond.methodLink (o_name (q.1 / 10000)) (q.1 % 10000) objectInit ∈ w_all) ∨ (q.2 = 1001 ∧ Jvm.Cond.methodLink (o_name (q.1 / 10000)) (q.1 % 10000) arraycopyName ∈ w_all) ∨
  (q.2 = 1002 ∧ Jvm.Cond.methodLink (o_name (q.1 / 10000)) (q.1 % 10000) Lib.Math.max.name ∈ w_all) ∨ (q.2 = 1003 ∧ Jvm.Cond.methodLink (o_name (q.1 / 10000)) (q.1 % 10000) Lib.Math.min.name ∈ w_all)
set_option maxRecDepth 100000 in
theorem v_c0 : c_ok (3, 1000) := Or.inr (Or.inl ⟨rfl, w_in (i := 240) ⟨rfl, rfl⟩⟩)
set_option maxRecDepth 100000 in
theorem v_c1 : c_ok (17, 67) := Or.inl ⟨by decide, by decide, by decide, w_in (i := 110) ⟨rfl, rfl⟩, by decide +kernel, by decide +kernel, Or.inr (Or.inr ⟨by decide +kernel, rfl, rfl, by decide +kernel, w_in (i := 245) ⟨rfl, rfl⟩, Or.inr ⟨_, List.mem_of_getElem? (i := 2) rfl⟩⟩)⟩
set_option maxRecDepth 100000 in
theorem v_c2 : c_ok (22, 68) := Or.inl ⟨by decide, by decide, by decide, w_in (i := 110) ⟨rfl, rfl⟩, by decide +kernel, by decide +kernel, Or.inr (Or.inl ⟨by decide +kernel, by decide +kernel, w_in (i := 750) ⟨rfl, rfl⟩, w_in (i := 751) ⟨rfl, rfl⟩, w_in (i := 752) ⟨rfl, rfl⟩, Or.inl ⟨by decide +kernel, by decide +kernel, rfl⟩⟩)⟩
set_option maxRecDepth 100000 in
theorem v_c3 : c_ok (32, 4) := Or.inl ⟨by decide, by decide, by decide, w_in (i := 109) ⟨rfl, rfl⟩, by decide +kernel, by decide +kernel, Or.inr (Or.inl ⟨by decide +kernel, by decide +kernel, w_in (i := 1122) ⟨rfl, rfl⟩, w_in (i := 1124) ⟨rfl, rfl⟩, w_in (i := 20) ⟨rfl, rfl⟩, Or.inl ⟨by decide +kernel, by decide +kernel, rfl⟩⟩)⟩
set_option maxRecDepth 100000 in
theorem v_c4 : c_ok (36, 69) := Or.inl ⟨by decide, by decide, by decide, w_in (i := 110) ⟨rfl, rfl⟩, by decide +kernel, by decide +kernel, Or.inr (Or.inl ⟨by decide +kernel, by decide +kernel, w_in (i := 804) ⟨rfl, rfl⟩, w_in (i := 805) ⟨rfl, rfl⟩, w_in (i := 806) ⟨rfl, rfl⟩, Or.inl ⟨by decide +kernel, by decide +kernel, rfl⟩⟩)⟩
set_option maxRecDepth 100000 in
theorem v_c5 : c_ok (43, 7) := Or.inl ⟨by decide, by decide, by decide, w_in (i := 109) ⟨rfl, rfl⟩, by decide +kernel, by decide +kernel, Or.inr (Or.inl ⟨by decide +kernel, by decide +kernel, w_in (i := 884) ⟨rfl, rfl⟩, w_in (i := 886) ⟨rfl, rfl⟩, w_in (i := 15) ⟨rfl, rfl⟩, Or.inl ⟨by decide +kernel, by decide +kernel, rfl⟩⟩)⟩
set_option maxRecDepth 100000 in
theorem v_c6 : c_ok (10003, 1000) := Or.inr (Or.inl ⟨rfl, w_in (i := 399) ⟨rfl, rfl⟩⟩)
set_option maxRecDepth 100000 in
theorem v_c7 : c_ok (10017, 28) := Or.inl ⟨by decide, by decide, by decide, w_in (i := 107) ⟨rfl, rfl⟩, by decide +kernel, by decide +kernel, Or.inr (Or.inr ⟨by decide +kernel, rfl, rfl, by decide +kernel, w_in (i := 185) ⟨rfl, rfl⟩, Or.inl (w_in (i := 402) ⟨rfl, rfl⟩)⟩)⟩
set_option maxRecDepth 100000 in
theorem v_c8 : c_ok (10022, 29) := Or.inl ⟨by decide, by decide, by decide, w_in (i := 107) ⟨rfl, rfl⟩, by decide +kernel, by decide +kernel, Or.inr (Or.inl ⟨by decide +kernel, by decide +kernel, w_in (i := 1317) ⟨rfl, rfl⟩, w_in (i := 735) ⟨rfl, rfl⟩, w_in (i := 736) ⟨rfl, rfl⟩, Or.inl ⟨by decide +kernel, by decide +kernel, rfl⟩⟩)⟩
set_option maxRecDepth 100000 in
theorem v_c9 : c_ok (10029, 1003) := Or.inr (Or.inr (Or.inr (Or.inr (⟨rfl, w_in (i := 1318) ⟨rfl, rfl⟩⟩))))
set_option maxRecDepth 100000 in
theorem v_c10 : c_ok (20003, 1000) := Or.inr (Or.inl ⟨rfl, w_in (i := 304) ⟨rfl, rfl⟩⟩)
set_option maxRecDepth 100000 in
theorem v_c11 : c_ok (20028, 1001) := Or.inr (Or.inr (Or.inl ⟨rfl, w_in (i := 759) ⟨rfl, rfl⟩⟩))
set_option maxRecDepth 100000 in
theorem v_c12 : c_ok (20054, 1002) := Or.inr (Or.inr (Or.inr (Or.inl ⟨rfl, w_in (i := 1149) ⟨rfl, rfl⟩⟩)))
set_option maxRecDepth 100000 in
theorem v_c13 : c_ok (20060, 69) := Or.inl ⟨by decide, by decide, by decide, w_in (i := 110) ⟨rfl, rfl⟩, by decide +kernel, by decide +kernel, Or.inr (Or.inl ⟨by decide +kernel, by decide +kernel, w_in (i := 1150) ⟨rfl, rfl⟩, w_in (i := 805) ⟨rfl, rfl⟩, w_in (i := 806) ⟨rfl, rfl⟩, Or.inl ⟨by decide +kernel, by decide +kernel, rfl⟩⟩)⟩
set_option maxRecDepth 100000 in
theorem v_c14 : c_ok (30003, 1000) := Or.inr (Or.inl ⟨rfl, w_in (i := 419) ⟨rfl, rfl⟩⟩)
set_option maxRecDepth 100000 in
theorem v_c15 : c_ok (30031, 84) := Or.inl ⟨by decide, by decide, by decide, w_in (i := 108) ⟨rfl, rfl⟩, by decide +kernel, by decide +kernel, Or.inr (Or.inl ⟨by decide +kernel, by decide +kernel, w_in (i := 978) ⟨rfl, rfl⟩, w_in (i := 797) ⟨rfl, rfl⟩, w_in (i := 798) ⟨rfl, rfl⟩, Or.inl ⟨by decide +kernel, by decide +kernel, rfl⟩⟩)⟩
set_option maxRecDepth 100000 in
theorem v_c16 : c_ok (30040, 24) := Or.inl ⟨by decide, by decide, by decide, w_in (i := 113) ⟨rfl, rfl⟩, by decide +kernel, by decide +kernel, Or.inr (Or.inl ⟨by decide +kernel, by decide +kernel, w_in (i := 979) ⟨rfl, rfl⟩, w_in (i := 981) ⟨rfl, rfl⟩, w_in (i := 17) ⟨rfl, rfl⟩, Or.inl ⟨by decide +kernel, by decide +kernel, rfl⟩⟩)⟩
set_option maxRecDepth 100000 in
theorem v_c17 : c_ok (30047, 26) := Or.inl ⟨by decide, by decide, by decide, w_in (i := 113) ⟨rfl, rfl⟩, by decide +kernel, by decide +kernel, Or.inr (Or.inl ⟨by decide +kernel, by decide +kernel, w_in (i := 987) ⟨rfl, rfl⟩, w_in (i := 989) ⟨rfl, rfl⟩, w_in (i := 19) ⟨rfl, rfl⟩, Or.inl ⟨by decide +kernel, by decide +kernel, rfl⟩⟩)⟩
set_option maxRecDepth 100000 in
theorem v_c18 : c_ok (30050, 25) := Or.inl ⟨by decide, by decide, by decide, w_in (i := 113) ⟨rfl, rfl⟩, by decide +kernel, by decide +kernel, Or.inr (Or.inl ⟨by decide +kernel, by decide +kernel, w_in (i := 983) ⟨rfl, rfl⟩, w_in (i := 985) ⟨rfl, rfl⟩, w_in (i := 18) ⟨rfl, rfl⟩, Or.inl ⟨by decide +kernel, by decide +kernel, rfl⟩⟩)⟩
set_option maxRecDepth 100000 in
theorem v_c19 : c_ok (30057, 1002) := Or.inr (Or.inr (Or.inr (Or.inl ⟨rfl, w_in (i := 991) ⟨rfl, rfl⟩⟩)))
set_option maxRecDepth 100000 in
theorem v_c20 : c_ok (40003, 1000) := Or.inr (Or.inl ⟨rfl, w_in (i := 187) ⟨rfl, rfl⟩⟩)
set_option maxRecDepth 100000 in
theorem v_c21 : c_ok (40011, 78) := Or.inl ⟨by decide, by decide, by decide, w_in (i := 108) ⟨rfl, rfl⟩, by decide +kernel, by decide +kernel, Or.inr (Or.inr ⟨by decide +kernel, rfl, rfl, by decide +kernel, w_in (i := 191) ⟨rfl, rfl⟩, Or.inr ⟨_, List.mem_of_getElem? (i := 1) rfl⟩⟩)⟩
set_option maxRecDepth 100000 in
theorem v_c22 : c_ok (40024, 0) := Or.inl ⟨by decide, by decide, by decide, w_in (i := 109) ⟨rfl, rfl⟩, by decide +kernel, by decide +kernel, Or.inr (Or.inr ⟨by decide +kernel, rfl, rfl, by decide +kernel, w_in (i := 238) ⟨rfl, rfl⟩, Or.inl (w_in (i := 237) ⟨rfl, rfl⟩)⟩)⟩
set_option maxRecDepth 100000 in
theorem v_c23 : c_ok (40035, 14) := Or.inl ⟨by decide, by decide, by decide, w_in (i := 111) ⟨rfl, rfl⟩, by decide +kernel, by decide +kernel, Or.inr (Or.inr ⟨by decide +kernel, rfl, rfl, by decide +kernel, w_in (i := 302) ⟨rfl, rfl⟩, Or.inr ⟨_, List.mem_of_getElem? (i := 3) rfl⟩⟩)⟩
set_option maxRecDepth 100000 in
theorem v_c24 : c_ok (40036, 79) := Or.inl ⟨by decide, by decide, by decide, w_in (i := 108) ⟨rfl, rfl⟩, by decide +kernel, by decide +kernel, Or.inr (Or.inl ⟨by decide +kernel, by decide +kernel, w_in (i := 738) ⟨rfl, rfl⟩, w_in (i := 739) ⟨rfl, rfl⟩, w_in (i := 740) ⟨rfl, rfl⟩, Or.inl ⟨by decide +kernel, by decide +kernel, rfl⟩⟩)⟩
set_option maxRecDepth 100000 in
theorem v_c25 : c_ok (40040, 1001) := Or.inr (Or.inr (Or.inl ⟨rfl, w_in (i := 745) ⟨rfl, rfl⟩⟩))
set_option maxRecDepth 100000 in
theorem v_c26 : c_ok (40046, 1) := Or.inl ⟨by decide, by decide, by decide, w_in (i := 109) ⟨rfl, rfl⟩, by decide +kernel, by decide +kernel, Or.inr (Or.inl ⟨by decide +kernel, by decide +kernel, w_in (i := 746) ⟨rfl, rfl⟩, w_in (i := 747) ⟨rfl, rfl⟩, w_in (i := 748) ⟨rfl, rfl⟩, Or.inl ⟨by decide +kernel, by decide +kernel, rfl⟩⟩)⟩
set_option maxRecDepth 100000 in
theorem v_c27 : c_ok (40053, 15) := Or.inl ⟨by decide, by decide, by decide, w_in (i := 111) ⟨rfl, rfl⟩, by decide +kernel, by decide +kernel, Or.inr (Or.inl ⟨by decide +kernel, by decide +kernel, w_in (i := 755) ⟨rfl, rfl⟩, w_in (i := 756) ⟨rfl, rfl⟩, w_in (i := 757) ⟨rfl, rfl⟩, Or.inl ⟨by decide +kernel, by decide +kernel, rfl⟩⟩)⟩
set_option maxRecDepth 100000 in
theorem v_c28 : c_ok (40068, 80) := Or.inl ⟨by decide, by decide, by decide, w_in (i := 108) ⟨rfl, rfl⟩, by decide +kernel, by decide +kernel, Or.inr (Or.inl ⟨by decide +kernel, by decide +kernel, w_in (i := 603) ⟨rfl, rfl⟩, w_in (i := 604) ⟨rfl, rfl⟩, w_in (i := 605) ⟨rfl, rfl⟩, Or.inl ⟨by decide +kernel, by decide +kernel, rfl⟩⟩)⟩
set_option maxRecDepth 100000 in
theorem v_c29 : c_ok (40083, 33) := Or.inl ⟨by decide, by decide, by decide, w_in (i := 107) ⟨rfl, rfl⟩, by decide +kernel, by decide +kernel, Or.inr (Or.inl ⟨by decide +kernel, by decide +kernel, w_in (i := 1328) ⟨rfl, rfl⟩, w_in (i := 1329) ⟨rfl, rfl⟩, w_in (i := 1330) ⟨rfl, rfl⟩, Or.inl ⟨by decide +kernel, by decide +kernel, rfl⟩⟩)⟩
set_option maxRecDepth 100000 in
theorem v_c30 : c_ok (40087, 3) := Or.inl ⟨by decide, by decide, by decide, w_in (i := 109) ⟨rfl, rfl⟩, by decide +kernel, by decide +kernel, Or.inr (Or.inl ⟨by decide +kernel, by decide +kernel, w_in (i := 1118) ⟨rfl, rfl⟩, w_in (i := 1119) ⟨rfl, rfl⟩, w_in (i := 1120) ⟨rfl, rfl⟩, Or.inl ⟨by decide +kernel, by decide +kernel, rfl⟩⟩)⟩
set_option maxRecDepth 100000 in
theorem v_c31 : c_ok (40091, 35) := Or.inl ⟨by decide, by decide, by decide, w_in (i := 107) ⟨rfl, rfl⟩, by decide +kernel, by decide +kernel, Or.inr (Or.inl ⟨by decide +kernel, by decide +kernel, w_in (i := 1126) ⟨rfl, rfl⟩, w_in (i := 1128) ⟨rfl, rfl⟩, w_in (i := 21) ⟨rfl, rfl⟩, Or.inl ⟨by decide +kernel, by decide +kernel, rfl⟩⟩)⟩
set_option maxRecDepth 100000 in
theorem v_c32 : c_ok (40100, 70) := Or.inl ⟨by decide, by decide, by decide, w_in (i := 110) ⟨rfl, rfl⟩, by decide +kernel, by decide +kernel, Or.inr (Or.inl ⟨by decide +kernel, by decide +kernel, w_in (i := 1130) ⟨rfl, rfl⟩, w_in (i := 1131) ⟨rfl, rfl⟩, w_in (i := 1132) ⟨rfl, rfl⟩, Or.inl ⟨by decide +kernel, by decide +kernel, rfl⟩⟩)⟩
set_option maxRecDepth 100000 in
theorem v_c33 : c_ok (40106, 71) := Or.inl ⟨by decide, by decide, by decide, w_in (i := 110) ⟨rfl, rfl⟩, by decide +kernel, by decide +kernel, Or.inr (Or.inl ⟨by decide +kernel, by decide +kernel, w_in (i := 1134) ⟨rfl, rfl⟩, w_in (i := 1135) ⟨rfl, rfl⟩, w_in (i := 1136) ⟨rfl, rfl⟩, Or.inl ⟨by decide +kernel, by decide +kernel, rfl⟩⟩)⟩
set_option maxRecDepth 100000 in
theorem v_c34 : c_ok (40109, 37) := Or.inl ⟨by decide, by decide, by decide, w_in (i := 107) ⟨rfl, rfl⟩, by decide +kernel, by decide +kernel, Or.inr (Or.inl ⟨by decide +kernel, by decide +kernel, w_in (i := 1106) ⟨rfl, rfl⟩, w_in (i := 1107) ⟨rfl, rfl⟩, w_in (i := 1108) ⟨rfl, rfl⟩, Or.inl ⟨by decide +kernel, by decide +kernel, rfl⟩⟩)⟩
set_option maxRecDepth 100000 in
theorem v_c35 : c_ok (40112, 2) := Or.inl ⟨by decide, by decide, by decide, w_in (i := 109) ⟨rfl, rfl⟩, by decide +kernel, by decide +kernel, Or.inr (Or.inl ⟨by decide +kernel, by decide +kernel, w_in (i := 1110) ⟨rfl, rfl⟩, w_in (i := 1111) ⟨rfl, rfl⟩, w_in (i := 1112) ⟨rfl, rfl⟩, Or.inl ⟨by decide +kernel, by decide +kernel, rfl⟩⟩)⟩
set_option maxRecDepth 100000 in
theorem v_c36 : c_ok (40116, 34) := Or.inl ⟨by decide, by decide, by decide, w_in (i := 107) ⟨rfl, rfl⟩, by decide +kernel, by decide +kernel, Or.inr (Or.inl ⟨by decide +kernel, by decide +kernel, w_in (i := 1114) ⟨rfl, rfl⟩, w_in (i := 1115) ⟨rfl, rfl⟩, w_in (i := 1116) ⟨rfl, rfl⟩, Or.inl ⟨by decide +kernel, by decide +kernel, rfl⟩⟩)⟩
set_option maxRecDepth 100000 in
theorem v_c37 : c_ok (40120, 38) := Or.inl ⟨by decide, by decide, by decide, w_in (i := 107) ⟨rfl, rfl⟩, by decide +kernel, by decide +kernel, Or.inr (Or.inl ⟨by decide +kernel, by decide +kernel, w_in (i := 1140) ⟨rfl, rfl⟩, w_in (i := 1142) ⟨rfl, rfl⟩, w_in (i := 22) ⟨rfl, rfl⟩, Or.inl ⟨by decide +kernel, by decide +kernel, rfl⟩⟩)⟩
set_option maxRecDepth 100000 in
theorem v_c38 : c_ok (40123, 5) := Or.inl ⟨by decide, by decide, by decide, w_in (i := 109) ⟨rfl, rfl⟩, by decide +kernel, by decide +kernel, Or.inr (Or.inl ⟨by decide +kernel, by decide +kernel, w_in (i := 1156) ⟨rfl, rfl⟩, w_in (i := 1157) ⟨rfl, rfl⟩, w_in (i := 1158) ⟨rfl, rfl⟩, Or.inl ⟨by decide +kernel, by decide +kernel, rfl⟩⟩)⟩
set_option maxRecDepth 100000 in
theorem v_c39 : c_ok (40133, 17) := Or.inl ⟨by decide, by decide, by decide, w_in (i := 111) ⟨rfl, rfl⟩, by decide +kernel, by decide +kernel, Or.inr (Or.inl ⟨by decide +kernel, by decide +kernel, w_in (i := 1144) ⟨rfl, rfl⟩, w_in (i := 1011) ⟨rfl, rfl⟩, w_in (i := 1012) ⟨rfl, rfl⟩, Or.inl ⟨by decide +kernel, by decide +kernel, rfl⟩⟩)⟩
set_option maxRecDepth 100000 in
theorem v_c40 : c_ok (40140, 20) := Or.inl ⟨by decide, by decide, by decide, w_in (i := 111) ⟨rfl, rfl⟩, by decide +kernel, by decide +kernel, Or.inr (Or.inl ⟨by decide +kernel, by decide +kernel, w_in (i := 1145) ⟨rfl, rfl⟩, w_in (i := 1146) ⟨rfl, rfl⟩, w_in (i := 1147) ⟨rfl, rfl⟩, Or.inl ⟨by decide +kernel, by decide +kernel, rfl⟩⟩)⟩
set_option maxRecDepth 100000 in
theorem v_c41 : c_ok (40144, 39) := Or.inl ⟨by decide, by decide, by decide, w_in (i := 107) ⟨rfl, rfl⟩, by decide +kernel, by decide +kernel, Or.inr (Or.inl ⟨by decide +kernel, by decide +kernel, w_in (i := 1151) ⟨rfl, rfl⟩, w_in (i := 1153) ⟨rfl, rfl⟩, w_in (i := 23) ⟨rfl, rfl⟩, Or.inl ⟨by decide +kernel, by decide +kernel, rfl⟩⟩)⟩
set_option maxRecDepth 100000 in
theorem v_c42 : c_ok (40148, 69) := Or.inl ⟨by decide, by decide, by decide, w_in (i := 110) ⟨rfl, rfl⟩, by decide +kernel, by decide +kernel, Or.inr (Or.inl ⟨by decide +kernel, by decide +kernel, w_in (i := 1155) ⟨rfl, rfl⟩, w_in (i := 805) ⟨rfl, rfl⟩, w_in (i := 806) ⟨rfl, rfl⟩, Or.inl ⟨by decide +kernel, by decide +kernel, rfl⟩⟩)⟩
set_option maxRecDepth 100000 in
theorem v_c43 : c_ok (40163, 40) := Or.inl ⟨by decide, by decide, by decide, w_in (i := 107) ⟨rfl, rfl⟩, by decide +kernel, by decide +kernel, Or.inr (Or.inl ⟨by decide +kernel, by decide +kernel, w_in (i := 1018) ⟨rfl, rfl⟩, w_in (i := 1019) ⟨rfl, rfl⟩, w_in (i := 1020) ⟨rfl, rfl⟩, Or.inl ⟨by decide +kernel, by decide +kernel, rfl⟩⟩)⟩
set_option maxRecDepth 100000 in
theorem v_c44 : c_ok (40167, 41) := Or.inl ⟨by decide, by decide, by decide, w_in (i := 107) ⟨rfl, rfl⟩, by decide +kernel, by decide +kernel, Or.inr (Or.inl ⟨by decide +kernel, by decide +kernel, w_in (i := 1026) ⟨rfl, rfl⟩, w_in (i := 1027) ⟨rfl, rfl⟩, w_in (i := 1028) ⟨rfl, rfl⟩, Or.inl ⟨by decide +kernel, by decide +kernel, rfl⟩⟩)⟩
set_option maxRecDepth 100000 in
theorem v_c45 : c_ok (40170, 89) := Or.inl ⟨by decide, by decide, by decide, w_in (i := 108) ⟨rfl, rfl⟩, by decide +kernel, by decide +kernel, Or.inr (Or.inl ⟨by decide +kernel, by decide +kernel, w_in (i := 820) ⟨rfl, rfl⟩, w_in (i := 821) ⟨rfl, rfl⟩, w_in (i := 822) ⟨rfl, rfl⟩, Or.inl ⟨by decide +kernel, by decide +kernel, rfl⟩⟩)⟩
set_option maxRecDepth 100000 in
theorem v_c46 : c_ok (40174, 45) := Or.inl ⟨by decide, by decide, by decide, w_in (i := 107) ⟨rfl, rfl⟩, by decide +kernel, by decide +kernel, Or.inr (Or.inl ⟨by decide +kernel, by decide +kernel, w_in (i := 816) ⟨rfl, rfl⟩, w_in (i := 817) ⟨rfl, rfl⟩, w_in (i := 818) ⟨rfl, rfl⟩, Or.inl ⟨by decide +kernel, by decide +kernel, rfl⟩⟩)⟩
set_option maxRecDepth 100000 in
theorem v_c47 : c_ok (40178, 298) := Or.inl ⟨by decide, by decide, by decide, w_in (i := 128) ⟨rfl, rfl⟩, by decide +kernel, by decide +kernel, Or.inl ⟨by decide +kernel, by decide +kernel, w_in (i := 1074) ⟨rfl, rfl⟩, w_in (i := 1075) ⟨rfl, rfl⟩⟩⟩
set_option maxRecDepth 100000 in
theorem v_c48 : c_ok (40184, 46) := Or.inl ⟨by decide, by decide, by decide, w_in (i := 107) ⟨rfl, rfl⟩, by decide +kernel, by decide +kernel, Or.inr (Or.inl ⟨by decide +kernel, by decide +kernel, w_in (i := 812) ⟨rfl, rfl⟩, w_in (i := 813) ⟨rfl, rfl⟩, w_in (i := 814) ⟨rfl, rfl⟩, Or.inl ⟨by decide +kernel, by decide +kernel, rfl⟩⟩)⟩
set_option maxRecDepth 100000 in
theorem v_c49 : c_ok (50003, 1000) := Or.inr (Or.inl ⟨rfl, w_in (i := 143) ⟨rfl, rfl⟩⟩)
set_option maxRecDepth 100000 in
theorem v_c50 : c_ok (50034, 30) := Or.inl ⟨by decide, by decide, by decide, w_in (i := 107) ⟨rfl, rfl⟩, by decide +kernel, by decide +kernel, Or.inr (Or.inl ⟨by decide +kernel, by decide +kernel, w_in (i := 599) ⟨rfl, rfl⟩, w_in (i := 600) ⟨rfl, rfl⟩, w_in (i := 601) ⟨rfl, rfl⟩, Or.inl ⟨by decide +kernel, by decide +kernel, rfl⟩⟩)⟩
set_option maxRecDepth 100000 in
theorem v_c51 : c_ok (50039, 64) := Or.inl ⟨by decide, by decide, by decide, w_in (i := 106) ⟨rfl, rfl⟩, by decide +kernel, by decide +kernel, Or.inr (Or.inl ⟨by decide +kernel, by decide +kernel, w_in (i := 615) ⟨rfl, rfl⟩, w_in (i := 617) ⟨rfl, rfl⟩, w_in (i := 1) ⟨rfl, rfl⟩, Or.inl ⟨by decide +kernel, by decide +kernel, rfl⟩⟩)⟩
set_option maxRecDepth 100000 in
theorem v_c52 : c_ok (50044, 60) := Or.inl ⟨by decide, by decide, by decide, w_in (i := 106) ⟨rfl, rfl⟩, by decide +kernel, by decide +kernel, Or.inr (Or.inl ⟨by decide +kernel, by decide +kernel, w_in (i := 626) ⟨rfl, rfl⟩, w_in (i := 628) ⟨rfl, rfl⟩, w_in (i := 2) ⟨rfl, rfl⟩, Or.inl ⟨by decide +kernel, by decide +kernel, rfl⟩⟩)⟩
set_option maxRecDepth 100000 in
theorem v_c53 : c_ok (50048, 62) := Or.inl ⟨by decide, by decide, by decide, w_in (i := 106) ⟨rfl, rfl⟩, by decide +kernel, by decide +kernel, Or.inr (Or.inl ⟨by decide +kernel, by decide +kernel, w_in (i := 686) ⟨rfl, rfl⟩, w_in (i := 688) ⟨rfl, rfl⟩, w_in (i := 5) ⟨rfl, rfl⟩, Or.inl ⟨by decide +kernel, by decide +kernel, rfl⟩⟩)⟩
set_option maxRecDepth 100000 in
theorem v_c54 : c_ok (50061, 61) := Or.inl ⟨by decide, by decide, by decide, w_in (i := 106) ⟨rfl, rfl⟩, by decide +kernel, by decide +kernel, Or.inr (Or.inl ⟨by decide +kernel, by decide +kernel, w_in (i := 690) ⟨rfl, rfl⟩, w_in (i := 692) ⟨rfl, rfl⟩, w_in (i := 6) ⟨rfl, rfl⟩, Or.inl ⟨by decide +kernel, by decide +kernel, rfl⟩⟩)⟩
set_option maxRecDepth 100000 in
theorem v_c55 : c_ok (50067, 63) := Or.inl ⟨by decide, by decide, by decide, w_in (i := 106) ⟨rfl, rfl⟩, by decide +kernel, by decide +kernel, Or.inr (Or.inl ⟨by decide +kernel, by decide +kernel, w_in (i := 630) ⟨rfl, rfl⟩, w_in (i := 632) ⟨rfl, rfl⟩, w_in (i := 3) ⟨rfl, rfl⟩, Or.inl ⟨by decide +kernel, by decide +kernel, rfl⟩⟩)⟩
set_option maxRecDepth 100000 in
theorem v_c56 : c_ok (50070, 56) := Or.inl ⟨by decide, by decide, by decide, w_in (i := 106) ⟨rfl, rfl⟩, by decide +kernel, by decide +kernel, Or.inr (Or.inl ⟨by decide +kernel, by decide +kernel, w_in (i := 695) ⟨rfl, rfl⟩, w_in (i := 697) ⟨rfl, rfl⟩, w_in (i := 7) ⟨rfl, rfl⟩, Or.inl ⟨by decide +kernel, by decide +kernel, rfl⟩⟩)⟩
set_option maxRecDepth 100000 in
theorem v_c57 : c_ok (50074, 57) := Or.inl ⟨by decide, by decide, by decide, w_in (i := 106) ⟨rfl, rfl⟩, by decide +kernel, by decide +kernel, Or.inr (Or.inl ⟨by decide +kernel, by decide +kernel, w_in (i := 700) ⟨rfl, rfl⟩, w_in (i := 702) ⟨rfl, rfl⟩, w_in (i := 8) ⟨rfl, rfl⟩, Or.inl ⟨by decide +kernel, by decide +kernel, rfl⟩⟩)⟩
set_option maxRecDepth 100000 in
theorem v_c58 : c_ok (50080, 59) := Or.inl ⟨by decide, by decide, by decide, w_in (i := 106) ⟨rfl, rfl⟩, by decide +kernel, by decide +kernel, Or.inr (Or.inl ⟨by decide +kernel, by decide +kernel, w_in (i := 682) ⟨rfl, rfl⟩, w_in (i := 684) ⟨rfl, rfl⟩, w_in (i := 4) ⟨rfl, rfl⟩, Or.inl ⟨by decide +kernel, by decide +kernel, rfl⟩⟩)⟩
set_option maxRecDepth 100000 in
theorem v_c59 : c_ok (50088, 81) := Or.inl ⟨by decide, by decide, by decide, w_in (i := 108) ⟨rfl, rfl⟩, by decide +kernel, by decide +kernel, Or.inr (Or.inl ⟨by decide +kernel, by decide +kernel, w_in (i := 699) ⟨rfl, rfl⟩, w_in (i := 612) ⟨rfl, rfl⟩, w_in (i := 613) ⟨rfl, rfl⟩, Or.inl ⟨by decide +kernel, by decide +kernel, rfl⟩⟩)⟩
set_option maxRecDepth 100000 in
theorem v_c60 : c_ok (50100, 16) := Or.inl ⟨by decide, by decide, by decide, w_in (i := 111) ⟨rfl, rfl⟩, by decide +kernel, by decide +kernel, Or.inr (Or.inl ⟨by decide +kernel, by decide +kernel, w_in (i := 705) ⟨rfl, rfl⟩, w_in (i := 706) ⟨rfl, rfl⟩, w_in (i := 707) ⟨rfl, rfl⟩, Or.inl ⟨by decide +kernel, by decide +kernel, rfl⟩⟩)⟩
set_option maxRecDepth 100000 in
theorem v_c61 : c_ok (50108, 58) := Or.inl ⟨by decide, by decide, by decide, w_in (i := 106) ⟨rfl, rfl⟩, by decide +kernel, by decide +kernel, Or.inr (Or.inl ⟨by decide +kernel, by decide +kernel, w_in (i := 710) ⟨rfl, rfl⟩, w_in (i := 712) ⟨rfl, rfl⟩, w_in (i := 9) ⟨rfl, rfl⟩, Or.inl ⟨by decide +kernel, by decide +kernel, rfl⟩⟩)⟩
set_option maxRecDepth 100000 in
theorem v_c62 : c_ok (50115, 18) := Or.inl ⟨by decide, by decide, by decide, w_in (i := 111) ⟨rfl, rfl⟩, by decide +kernel, by decide +kernel, Or.inr (Or.inl ⟨by decide +kernel, by decide +kernel, w_in (i := 714) ⟨rfl, rfl⟩, w_in (i := 715) ⟨rfl, rfl⟩, w_in (i := 716) ⟨rfl, rfl⟩, Or.inl ⟨by decide +kernel, by decide +kernel, rfl⟩⟩)⟩
set_option maxRecDepth 100000 in
theorem v_c63 : c_ok (50125, 352) := Or.inl ⟨by decide, by decide, by decide, w_in (i := 120) ⟨rfl, rfl⟩, by decide +kernel, by decide +kernel, Or.inr (Or.inl ⟨by decide +kernel, by decide +kernel, w_in (i := 634) ⟨rfl, rfl⟩, w_in (i := 635) ⟨rfl, rfl⟩, w_in (i := 636) ⟨rfl, rfl⟩, Or.inr ⟨by decide +kernel, rfl⟩⟩)⟩
set_option maxRecDepth 100000 in
theorem v_c64 : c_ok (50131, 353) := Or.inl ⟨by decide, by decide, by decide, w_in (i := 120) ⟨rfl, rfl⟩, by decide +kernel, by decide +kernel, Or.inr (Or.inl ⟨by decide +kernel, by decide +kernel, w_in (i := 644) ⟨rfl, rfl⟩, w_in (i := 645) ⟨rfl, rfl⟩, w_in (i := 646) ⟨rfl, rfl⟩, Or.inr ⟨by decide +kernel, rfl⟩⟩)⟩
set_option maxRecDepth 100000 in
theorem v_c65 : c_ok (50135, 65) := Or.inl ⟨by decide, by decide, by decide, w_in (i := 106) ⟨rfl, rfl⟩, by decide +kernel, by decide +kernel, Or.inl ⟨by decide +kernel, by decide +kernel, w_in (i := 619) ⟨rfl, rfl⟩, w_in (i := 620) ⟨rfl, rfl⟩⟩⟩
set_option maxRecDepth 100000 in
theorem v_c66 : c_ok (50138, 66) := Or.inl ⟨by decide, by decide, by decide, w_in (i := 106) ⟨rfl, rfl⟩, by decide +kernel, by decide +kernel, Or.inl ⟨by decide +kernel, by decide +kernel, w_in (i := 622) ⟨rfl, rfl⟩, w_in (i := 623) ⟨rfl, rfl⟩⟩⟩
set_option maxRecDepth 100000 in
theorem v_c67 : c_ok (60003, 1000) := Or.inr (Or.inl ⟨rfl, w_in (i := 247) ⟨rfl, rfl⟩⟩)
set_option maxRecDepth 100000 in
theorem v_c68 : c_ok (60037, 1001) := Or.inr (Or.inr (Or.inl ⟨rfl, w_in (i := 754) ⟨rfl, rfl⟩⟩))
set_option maxRecDepth 100000 in
theorem v_c69 : c_ok (60043, 1003) := Or.inr (Or.inr (Or.inr (Or.inr (⟨rfl, w_in (i := 1138) ⟨rfl, rfl⟩⟩))))
set_option maxRecDepth 100000 in
theorem v_c70 : c_ok (60049, 1002) := Or.inr (Or.inr (Or.inr (Or.inl ⟨rfl, w_in (i := 1139) ⟨rfl, rfl⟩⟩)))
set_option maxRecDepth 100000 in
theorem v_c71 : c_ok (70003, 1000) := Or.inr (Or.inl ⟨rfl, w_in (i := 452) ⟨rfl, rfl⟩⟩)
set_option maxRecDepth 100000 in
theorem v_c72 : c_ok (70019, 75) := Or.inl ⟨by decide, by decide, by decide, w_in (i := 114) ⟨rfl, rfl⟩, by decide +kernel, by decide +kernel, Or.inr (Or.inl ⟨by decide +kernel, by decide +kernel, w_in (i := 1274) ⟨rfl, rfl⟩, w_in (i := 1267) ⟨rfl, rfl⟩, w_in (i := 1268) ⟨rfl, rfl⟩, Or.inl ⟨by decide +kernel, by decide +kernel, rfl⟩⟩)⟩
set_option maxRecDepth 100000 in
theorem v_c73 : c_ok (70023, 76) := Or.inl ⟨by decide, by decide, by decide, w_in (i := 114) ⟨rfl, rfl⟩, by decide +kernel, by decide +kernel, Or.inr (Or.inl ⟨by decide +kernel, by decide +kernel, w_in (i := 1286) ⟨rfl, rfl⟩, w_in (i := 1271) ⟨rfl, rfl⟩, w_in (i := 1272) ⟨rfl, rfl⟩, Or.inl ⟨by decide +kernel, by decide +kernel, rfl⟩⟩)⟩
set_option maxRecDepth 100000 in
theorem v_c74 : c_ok (80003, 1000) := Or.inr (Or.inl ⟨rfl, w_in (i := 193) ⟨rfl, rfl⟩⟩)
set_option maxRecDepth 100000 in
theorem v_c75 : c_ok (80037, 1001) := Or.inr (Or.inr (Or.inl ⟨rfl, w_in (i := 742) ⟨rfl, rfl⟩⟩))
set_option maxRecDepth 100000 in
theorem v_c76 : c_ok (80043, 82) := Or.inl ⟨by decide, by decide, by decide, w_in (i := 108) ⟨rfl, rfl⟩, by decide +kernel, by decide +kernel, Or.inr (Or.inl ⟨by decide +kernel, by decide +kernel, w_in (i := 607) ⟨rfl, rfl⟩, w_in (i := 608) ⟨rfl, rfl⟩, w_in (i := 609) ⟨rfl, rfl⟩, Or.inl ⟨by decide +kernel, by decide +kernel, rfl⟩⟩)⟩
set_option maxRecDepth 100000 in
theorem v_c77 : c_ok (80047, 81) := Or.inl ⟨by decide, by decide, by decide, w_in (i := 108) ⟨rfl, rfl⟩, by decide +kernel, by decide +kernel, Or.inr (Or.inl ⟨by decide +kernel, by decide +kernel, w_in (i := 611) ⟨rfl, rfl⟩, w_in (i := 612) ⟨rfl, rfl⟩, w_in (i := 613) ⟨rfl, rfl⟩, Or.inl ⟨by decide +kernel, by decide +kernel, rfl⟩⟩)⟩
set_option maxRecDepth 100000 in
theorem v_c78 : c_ok (80051, 84) := Or.inl ⟨by decide, by decide, by decide, w_in (i := 108) ⟨rfl, rfl⟩, by decide +kernel, by decide +kernel, Or.inr (Or.inl ⟨by decide +kernel, by decide +kernel, w_in (i := 796) ⟨rfl, rfl⟩, w_in (i := 797) ⟨rfl, rfl⟩, w_in (i := 798) ⟨rfl, rfl⟩, Or.inl ⟨by decide +kernel, by decide +kernel, rfl⟩⟩)⟩
set_option maxRecDepth 100000 in
theorem v_c79 : c_ok (80055, 87) := Or.inl ⟨by decide, by decide, by decide, w_in (i := 108) ⟨rfl, rfl⟩, by decide +kernel, by decide +kernel, Or.inr (Or.inl ⟨by decide +kernel, by decide +kernel, w_in (i := 824) ⟨rfl, rfl⟩, w_in (i := 825) ⟨rfl, rfl⟩, w_in (i := 826) ⟨rfl, rfl⟩, Or.inl ⟨by decide +kernel, by decide +kernel, rfl⟩⟩)⟩
set_option maxRecDepth 100000 in
theorem v_c80 : c_ok (90001, 1000) := Or.inr (Or.inl ⟨rfl, w_in (i := 135) ⟨rfl, rfl⟩⟩)
set_option maxRecDepth 100000 in
theorem v_c81 : c_ok (90009, 52) := Or.inl ⟨by decide, by decide, by decide, w_in (i := 106) ⟨rfl, rfl⟩, by decide +kernel, by decide +kernel, Or.inr (Or.inr ⟨by decide +kernel, rfl, rfl, by decide +kernel, w_in (i := 141) ⟨rfl, rfl⟩, Or.inr ⟨_, List.mem_of_getElem? (i := 0) rfl⟩⟩)⟩
set_option maxRecDepth 100000 in
theorem v_c82 : c_ok (90018, 28) := Or.inl ⟨by decide, by decide, by decide, w_in (i := 107) ⟨rfl, rfl⟩, by decide +kernel, by decide +kernel, Or.inr (Or.inr ⟨by decide +kernel, rfl, rfl, by decide +kernel, w_in (i := 185) ⟨rfl, rfl⟩, Or.inl (w_in (i := 184) ⟨rfl, rfl⟩)⟩)⟩
set_option maxRecDepth 100000 in
theorem v_c83 : c_ok (90028, 10) := Or.inl ⟨by decide, by decide, by decide, w_in (i := 112) ⟨rfl, rfl⟩, by decide +kernel, by decide +kernel, Or.inr (Or.inr ⟨by decide +kernel, rfl, rfl, by decide +kernel, w_in (i := 397) ⟨rfl, rfl⟩, Or.inl (w_in (i := 396) ⟨rfl, rfl⟩)⟩)⟩
set_option maxRecDepth 100000 in
theorem v_c84 : c_ok (90043, 22) := Or.inl ⟨by decide, by decide, by decide, w_in (i := 113) ⟨rfl, rfl⟩, by decide +kernel, by decide +kernel, Or.inr (Or.inr ⟨by decide +kernel, rfl, rfl, by decide +kernel, w_in (i := 417) ⟨rfl, rfl⟩, Or.inr ⟨_, List.mem_of_getElem? (i := 4) rfl⟩⟩)⟩
set_option maxRecDepth 100000 in
theorem v_c85 : c_ok (90050, 73) := Or.inl ⟨by decide, by decide, by decide, w_in (i := 114) ⟨rfl, rfl⟩, by decide +kernel, by decide +kernel, Or.inr (Or.inr ⟨by decide +kernel, rfl, rfl, by decide +kernel, w_in (i := 450) ⟨rfl, rfl⟩, Or.inr ⟨_, List.mem_of_getElem? (i := 5) rfl⟩⟩)⟩
set_option maxRecDepth 100000 in
theorem v_c86 : c_ok (90055, 53) := Or.inl ⟨by decide, by decide, by decide, w_in (i := 106) ⟨rfl, rfl⟩, by decide +kernel, by decide +kernel, Or.inr (Or.inl ⟨by decide +kernel, by decide +kernel, w_in (i := 494) ⟨rfl, rfl⟩, w_in (i := 495) ⟨rfl, rfl⟩, w_in (i := 496) ⟨rfl, rfl⟩, Or.inl ⟨by decide +kernel, by decide +kernel, rfl⟩⟩)⟩
set_option maxRecDepth 100000 in
theorem v_c87 : c_ok (90059, 54) := Or.inl ⟨by decide, by decide, by decide, w_in (i := 106) ⟨rfl, rfl⟩, by decide +kernel, by decide +kernel, Or.inr (Or.inl ⟨by decide +kernel, by decide +kernel, w_in (i := 498) ⟨rfl, rfl⟩, w_in (i := 499) ⟨rfl, rfl⟩, w_in (i := 500) ⟨rfl, rfl⟩, Or.inl ⟨by decide +kernel, by decide +kernel, rfl⟩⟩)⟩
set_option maxRecDepth 100000 in
theorem v_c88 : c_ok (90074, 55) := Or.inl ⟨by decide, by decide, by decide, w_in (i := 106) ⟨rfl, rfl⟩, by decide +kernel, by decide +kernel, Or.inr (Or.inl ⟨by decide +kernel, by decide +kernel, w_in (i := 595) ⟨rfl, rfl⟩, w_in (i := 596) ⟨rfl, rfl⟩, w_in (i := 597) ⟨rfl, rfl⟩, Or.inl ⟨by decide +kernel, by decide +kernel, rfl⟩⟩)⟩
set_option maxRecDepth 100000 in
theorem v_c89 : c_ok (90083, 29) := Or.inl ⟨by decide, by decide, by decide, w_in (i := 107) ⟨rfl, rfl⟩, by decide +kernel, by decide +kernel, Or.inr (Or.inl ⟨by decide +kernel, by decide +kernel, w_in (i := 734) ⟨rfl, rfl⟩, w_in (i := 735) ⟨rfl, rfl⟩, w_in (i := 736) ⟨rfl, rfl⟩, Or.inl ⟨by decide +kernel, by decide +kernel, rfl⟩⟩)⟩
set_option maxRecDepth 100000 in
theorem v_c90 : c_ok (90087, 13) := Or.inl ⟨by decide, by decide, by decide, w_in (i := 112) ⟨rfl, rfl⟩, by decide +kernel, by decide +kernel, Or.inr (Or.inl ⟨by decide +kernel, by decide +kernel, w_in (i := 760) ⟨rfl, rfl⟩, w_in (i := 761) ⟨rfl, rfl⟩, w_in (i := 762) ⟨rfl, rfl⟩, Or.inl ⟨by decide +kernel, by decide +kernel, rfl⟩⟩)⟩
set_option maxRecDepth 100000 in
theorem v_c91 : c_ok (90103, 144) := Or.inl ⟨by decide, by decide, by decide, w_in (i := 105) ⟨rfl, rfl⟩, by decide +kernel, by decide +kernel, Or.inr (Or.inl ⟨by decide +kernel, by decide +kernel, w_in (i := 772) ⟨rfl, rfl⟩, w_in (i := 774) ⟨rfl, rfl⟩, w_in (i := 10) ⟨rfl, rfl⟩, Or.inl ⟨by decide +kernel, by decide +kernel, rfl⟩⟩)⟩
set_option maxRecDepth 100000 in
theorem v_c92 : c_ok (90114, 88) := Or.inl ⟨by decide, by decide, by decide, w_in (i := 108) ⟨rfl, rfl⟩, by decide +kernel, by decide +kernel, Or.inr (Or.inl ⟨by decide +kernel, by decide +kernel, w_in (i := 792) ⟨rfl, rfl⟩, w_in (i := 793) ⟨rfl, rfl⟩, w_in (i := 794) ⟨rfl, rfl⟩, Or.inl ⟨by decide +kernel, by decide +kernel, rfl⟩⟩)⟩
set_option maxRecDepth 100000 in
theorem v_c93 : c_ok (90136, 8) := Or.inl ⟨by decide, by decide, by decide, w_in (i := 109) ⟨rfl, rfl⟩, by decide +kernel, by decide +kernel, Or.inr (Or.inl ⟨by decide +kernel, by decide +kernel, w_in (i := 800) ⟨rfl, rfl⟩, w_in (i := 801) ⟨rfl, rfl⟩, w_in (i := 802) ⟨rfl, rfl⟩, Or.inl ⟨by decide +kernel, by decide +kernel, rfl⟩⟩)⟩
set_option maxRecDepth 100000 in
theorem v_c94 : c_ok (90146, 48) := Or.inl ⟨by decide, by decide, by decide, w_in (i := 107) ⟨rfl, rfl⟩, by decide +kernel, by decide +kernel, Or.inr (Or.inl ⟨by decide +kernel, by decide +kernel, w_in (i := 808) ⟨rfl, rfl⟩, w_in (i := 809) ⟨rfl, rfl⟩, w_in (i := 810) ⟨rfl, rfl⟩, Or.inl ⟨by decide +kernel, by decide +kernel, rfl⟩⟩)⟩
set_option maxRecDepth 100000 in
theorem v_c95 : c_ok (90149, 49) := Or.inl ⟨by decide, by decide, by decide, w_in (i := 107) ⟨rfl, rfl⟩, by decide +kernel, by decide +kernel, Or.inr (Or.inl ⟨by decide +kernel, by decide +kernel, w_in (i := 828) ⟨rfl, rfl⟩, w_in (i := 829) ⟨rfl, rfl⟩, w_in (i := 830) ⟨rfl, rfl⟩, Or.inl ⟨by decide +kernel, by decide +kernel, rfl⟩⟩)⟩
set_option maxRecDepth 100000 in
theorem v_c96 : c_ok (90152, 50) := Or.inl ⟨by decide, by decide, by decide, w_in (i := 107) ⟨rfl, rfl⟩, by decide +kernel, by decide +kernel, Or.inr (Or.inl ⟨by decide +kernel, by decide +kernel, w_in (i := 832) ⟨rfl, rfl⟩, w_in (i := 833) ⟨rfl, rfl⟩, w_in (i := 834) ⟨rfl, rfl⟩, Or.inl ⟨by decide +kernel, by decide +kernel, rfl⟩⟩)⟩
set_option maxRecDepth 100000 in
theorem v_c97 : c_ok (90157, 146) := Or.inl ⟨by decide, by decide, by decide, w_in (i := 105) ⟨rfl, rfl⟩, by decide +kernel, by decide +kernel, Or.inr (Or.inl ⟨by decide +kernel, by decide +kernel, w_in (i := 844) ⟨rfl, rfl⟩, w_in (i := 846) ⟨rfl, rfl⟩, w_in (i := 11) ⟨rfl, rfl⟩, Or.inl ⟨by decide +kernel, by decide +kernel, rfl⟩⟩)⟩
set_option maxRecDepth 100000 in
theorem v_c98 : c_ok (90160, 147) := Or.inl ⟨by decide, by decide, by decide, w_in (i := 105) ⟨rfl, rfl⟩, by decide +kernel, by decide +kernel, Or.inr (Or.inl ⟨by decide +kernel, by decide +kernel, w_in (i := 853) ⟨rfl, rfl⟩, w_in (i := 855) ⟨rfl, rfl⟩, w_in (i := 13) ⟨rfl, rfl⟩, Or.inl ⟨by decide +kernel, by decide +kernel, rfl⟩⟩)⟩
set_option maxRecDepth 100000 in
theorem v_c99 : c_ok (90163, 149) := Or.inl ⟨by decide, by decide, by decide, w_in (i := 105) ⟨rfl, rfl⟩, by decide +kernel, by decide +kernel, Or.inr (Or.inl ⟨by decide +kernel, by decide +kernel, w_in (i := 858) ⟨rfl, rfl⟩, w_in (i := 860) ⟨rfl, rfl⟩, w_in (i := 14) ⟨rfl, rfl⟩, Or.inl ⟨by decide +kernel, by decide +kernel, rfl⟩⟩)⟩
set_option maxRecDepth 100000 in
theorem v_c100 : c_ok (90167, 31) := Or.inl ⟨by decide, by decide, by decide, w_in (i := 107) ⟨rfl, rfl⟩, by decide +kernel, by decide +kernel, Or.inr (Or.inl ⟨by decide +kernel, by decide +kernel, w_in (i := 863) ⟨rfl, rfl⟩, w_in (i := 864) ⟨rfl, rfl⟩, w_in (i := 865) ⟨rfl, rfl⟩, Or.inl ⟨by decide +kernel, by decide +kernel, rfl⟩⟩)⟩
set_option maxRecDepth 100000 in
theorem v_c101 : c_ok (90171, 84) := Or.inl ⟨by decide, by decide, by decide, w_in (i := 108) ⟨rfl, rfl⟩, by decide +kernel, by decide +kernel, Or.inr (Or.inl ⟨by decide +kernel, by decide +kernel, w_in (i := 867) ⟨rfl, rfl⟩, w_in (i := 797) ⟨rfl, rfl⟩, w_in (i := 798) ⟨rfl, rfl⟩, Or.inl ⟨by decide +kernel, by decide +kernel, rfl⟩⟩)⟩
set_option maxRecDepth 100000 in
theorem v_c102 : c_ok (90175, 85) := Or.inl ⟨by decide, by decide, by decide, w_in (i := 108) ⟨rfl, rfl⟩, by decide +kernel, by decide +kernel, Or.inr (Or.inl ⟨by decide +kernel, by decide +kernel, w_in (i := 868) ⟨rfl, rfl⟩, w_in (i := 869) ⟨rfl, rfl⟩, w_in (i := 870) ⟨rfl, rfl⟩, Or.inl ⟨by decide +kernel, by decide +kernel, rfl⟩⟩)⟩
set_option maxRecDepth 100000 in
theorem v_c103 : c_ok (90180, 6) := Or.inl ⟨by decide, by decide, by decide, w_in (i := 109) ⟨rfl, rfl⟩, by decide +kernel, by decide +kernel, Or.inr (Or.inl ⟨by decide +kernel, by decide +kernel, w_in (i := 880) ⟨rfl, rfl⟩, w_in (i := 881) ⟨rfl, rfl⟩, w_in (i := 882) ⟨rfl, rfl⟩, Or.inl ⟨by decide +kernel, by decide +kernel, rfl⟩⟩)⟩
set_option maxRecDepth 100000 in
theorem v_c104 : c_ok (90201, 72) := Or.inl ⟨by decide, by decide, by decide, w_in (i := 110) ⟨rfl, rfl⟩, by decide +kernel, by decide +kernel, Or.inr (Or.inl ⟨by decide +kernel, by decide +kernel, w_in (i := 888) ⟨rfl, rfl⟩, w_in (i := 889) ⟨rfl, rfl⟩, w_in (i := 890) ⟨rfl, rfl⟩, Or.inl ⟨by decide +kernel, by decide +kernel, rfl⟩⟩)⟩
set_option maxRecDepth 100000 in
theorem v_c105 : c_ok (90206, 150) := Or.inl ⟨by decide, by decide, by decide, w_in (i := 105) ⟨rfl, rfl⟩, by decide +kernel, by decide +kernel, Or.inr (Or.inl ⟨by decide +kernel, by decide +kernel, w_in (i := 900) ⟨rfl, rfl⟩, w_in (i := 902) ⟨rfl, rfl⟩, w_in (i := 16) ⟨rfl, rfl⟩, Or.inl ⟨by decide +kernel, by decide +kernel, rfl⟩⟩)⟩
set_option maxRecDepth 100000 in
theorem v_c106 : c_ok (90220, 9) := Or.inl ⟨by decide, by decide, by decide, w_in (i := 109) ⟨rfl, rfl⟩, by decide +kernel, by decide +kernel, Or.inr (Or.inl ⟨by decide +kernel, by decide +kernel, w_in (i := 905) ⟨rfl, rfl⟩, w_in (i := 906) ⟨rfl, rfl⟩, w_in (i := 907) ⟨rfl, rfl⟩, Or.inl ⟨by decide +kernel, by decide +kernel, rfl⟩⟩)⟩
set_option maxRecDepth 100000 in
theorem v_c107 : c_ok (90224, 297) := Or.inl ⟨by decide, by decide, by decide, w_in (i := 128) ⟨rfl, rfl⟩, by decide +kernel, by decide +kernel, Or.inl ⟨by decide +kernel, by decide +kernel, w_in (i := 916) ⟨rfl, rfl⟩, w_in (i := 917) ⟨rfl, rfl⟩⟩⟩
set_option maxRecDepth 100000 in
theorem v_c108 : c_ok (90230, 295) := Or.inl ⟨by decide, by decide, by decide, w_in (i := 128) ⟨rfl, rfl⟩, by decide +kernel, by decide +kernel, Or.inl ⟨by decide +kernel, by decide +kernel, w_in (i := 940) ⟨rfl, rfl⟩, w_in (i := 927) ⟨rfl, rfl⟩⟩⟩
set_option maxRecDepth 100000 in
theorem v_c109 : c_ok (90234, 299) := Or.inl ⟨by decide, by decide, by decide, w_in (i := 128) ⟨rfl, rfl⟩, by decide +kernel, by decide +kernel, Or.inl ⟨by decide +kernel, by decide +kernel, w_in (i := 948) ⟨rfl, rfl⟩, w_in (i := 949) ⟨rfl, rfl⟩⟩⟩
set_option maxRecDepth 100000 in
theorem v_c110 : c_ok (90237, 300) := Or.inl ⟨by decide, by decide, by decide, w_in (i := 128) ⟨rfl, rfl⟩, by decide +kernel, by decide +kernel, Or.inl ⟨by decide +kernel, by decide +kernel, w_in (i := 961) ⟨rfl, rfl⟩, w_in (i := 962) ⟨rfl, rfl⟩⟩⟩
set_option maxRecDepth 100000 in
theorem v_c111 : c_ok (90241, 23) := Or.inl ⟨by decide, by decide, by decide, w_in (i := 113) ⟨rfl, rfl⟩, by decide +kernel, by decide +kernel, Or.inr (Or.inl ⟨by decide +kernel, by decide +kernel, w_in (i := 974) ⟨rfl, rfl⟩, w_in (i := 975) ⟨rfl, rfl⟩, w_in (i := 976) ⟨rfl, rfl⟩, Or.inl ⟨by decide +kernel, by decide +kernel, rfl⟩⟩)⟩
set_option maxRecDepth 100000 in
theorem v_c112 : c_ok (90246, 27) := Or.inl ⟨by decide, by decide, by decide, w_in (i := 113) ⟨rfl, rfl⟩, by decide +kernel, by decide +kernel, Or.inr (Or.inl ⟨by decide +kernel, by decide +kernel, w_in (i := 999) ⟨rfl, rfl⟩, w_in (i := 1000) ⟨rfl, rfl⟩, w_in (i := 1001) ⟨rfl, rfl⟩, Or.inl ⟨by decide +kernel, by decide +kernel, rfl⟩⟩)⟩
set_option maxRecDepth 100000 in
theorem v_c113 : c_ok (90247, 145) := Or.inl ⟨by decide, by decide, by decide, w_in (i := 105) ⟨rfl, rfl⟩, by decide +kernel, by decide +kernel, Or.inr (Or.inl ⟨by decide +kernel, by decide +kernel, w_in (i := 848) ⟨rfl, rfl⟩, w_in (i := 850) ⟨rfl, rfl⟩, w_in (i := 12) ⟨rfl, rfl⟩, Or.inl ⟨by decide +kernel, by decide +kernel, rfl⟩⟩)⟩
set_option maxRecDepth 100000 in
theorem v_c114 : c_ok (90262, 17) := Or.inl ⟨by decide, by decide, by decide, w_in (i := 111) ⟨rfl, rfl⟩, by decide +kernel, by decide +kernel, Or.inr (Or.inl ⟨by decide +kernel, by decide +kernel, w_in (i := 1010) ⟨rfl, rfl⟩, w_in (i := 1011) ⟨rfl, rfl⟩, w_in (i := 1012) ⟨rfl, rfl⟩, Or.inl ⟨by decide +kernel, by decide +kernel, rfl⟩⟩)⟩
set_option maxRecDepth 100000 in
theorem v_c115 : c_ok (90271, 42) := Or.inl ⟨by decide, by decide, by decide, w_in (i := 107) ⟨rfl, rfl⟩, by decide +kernel, by decide +kernel, Or.inr (Or.inl ⟨by decide +kernel, by decide +kernel, w_in (i := 1014) ⟨rfl, rfl⟩, w_in (i := 1015) ⟨rfl, rfl⟩, w_in (i := 1016) ⟨rfl, rfl⟩, Or.inl ⟨by decide +kernel, by decide +kernel, rfl⟩⟩)⟩
set_option maxRecDepth 100000 in
theorem v_c116 : c_ok (90275, 43) := Or.inl ⟨by decide, by decide, by decide, w_in (i := 107) ⟨rfl, rfl⟩, by decide +kernel, by decide +kernel, Or.inr (Or.inl ⟨by decide +kernel, by decide +kernel, w_in (i := 1022) ⟨rfl, rfl⟩, w_in (i := 1023) ⟨rfl, rfl⟩, w_in (i := 1024) ⟨rfl, rfl⟩, Or.inl ⟨by decide +kernel, by decide +kernel, rfl⟩⟩)⟩
set_option maxRecDepth 100000 in
theorem v_c117 : c_ok (90284, 45) := Or.inl ⟨by decide, by decide, by decide, w_in (i := 107) ⟨rfl, rfl⟩, by decide +kernel, by decide +kernel, Or.inr (Or.inl ⟨by decide +kernel, by decide +kernel, w_in (i := 1030) ⟨rfl, rfl⟩, w_in (i := 817) ⟨rfl, rfl⟩, w_in (i := 818) ⟨rfl, rfl⟩, Or.inl ⟨by decide +kernel, by decide +kernel, rfl⟩⟩)⟩
set_option maxRecDepth 100000 in
theorem v_c118 : c_ok (90287, 46) := Or.inl ⟨by decide, by decide, by decide, w_in (i := 107) ⟨rfl, rfl⟩, by decide +kernel, by decide +kernel, Or.inr (Or.inl ⟨by decide +kernel, by decide +kernel, w_in (i := 1031) ⟨rfl, rfl⟩, w_in (i := 813) ⟨rfl, rfl⟩, w_in (i := 814) ⟨rfl, rfl⟩, Or.inl ⟨by decide +kernel, by decide +kernel, rfl⟩⟩)⟩
set_option maxRecDepth 100000 in
theorem v_c119 : c_ok (90299, 40) := Or.inl ⟨by decide, by decide, by decide, w_in (i := 107) ⟨rfl, rfl⟩, by decide +kernel, by decide +kernel, Or.inr (Or.inl ⟨by decide +kernel, by decide +kernel, w_in (i := 1046) ⟨rfl, rfl⟩, w_in (i := 1019) ⟨rfl, rfl⟩, w_in (i := 1020) ⟨rfl, rfl⟩, Or.inl ⟨by decide +kernel, by decide +kernel, rfl⟩⟩)⟩
set_option maxRecDepth 100000 in
theorem v_c120 : c_ok (90303, 41) := Or.inl ⟨by decide, by decide, by decide, w_in (i := 107) ⟨rfl, rfl⟩, by decide +kernel, by decide +kernel, Or.inr (Or.inl ⟨by decide +kernel, by decide +kernel, w_in (i := 1054) ⟨rfl, rfl⟩, w_in (i := 1027) ⟨rfl, rfl⟩, w_in (i := 1028) ⟨rfl, rfl⟩, Or.inl ⟨by decide +kernel, by decide +kernel, rfl⟩⟩)⟩
set_option maxRecDepth 100000 in
theorem v_c121 : c_ok (90306, 89) := Or.inl ⟨by decide, by decide, by decide, w_in (i := 108) ⟨rfl, rfl⟩, by decide +kernel, by decide +kernel, Or.inr (Or.inl ⟨by decide +kernel, by decide +kernel, w_in (i := 1062) ⟨rfl, rfl⟩, w_in (i := 821) ⟨rfl, rfl⟩, w_in (i := 822) ⟨rfl, rfl⟩, Or.inl ⟨by decide +kernel, by decide +kernel, rfl⟩⟩)⟩
set_option maxRecDepth 100000 in
theorem v_c122 : c_ok (90310, 47) := Or.inl ⟨by decide, by decide, by decide, w_in (i := 107) ⟨rfl, rfl⟩, by decide +kernel, by decide +kernel, Or.inr (Or.inl ⟨by decide +kernel, by decide +kernel, w_in (i := 1070) ⟨rfl, rfl⟩, w_in (i := 1071) ⟨rfl, rfl⟩, w_in (i := 1072) ⟨rfl, rfl⟩, Or.inl ⟨by decide +kernel, by decide +kernel, rfl⟩⟩)⟩
set_option maxRecDepth 100000 in
theorem v_c123 : c_ok (90313, 44) := Or.inl ⟨by decide, by decide, by decide, w_in (i := 107) ⟨rfl, rfl⟩, by decide +kernel, by decide +kernel, Or.inr (Or.inl ⟨by decide +kernel, by decide +kernel, w_in (i := 1091) ⟨rfl, rfl⟩, w_in (i := 1092) ⟨rfl, rfl⟩, w_in (i := 1093) ⟨rfl, rfl⟩, Or.inl ⟨by decide +kernel, by decide +kernel, rfl⟩⟩)⟩
set_option maxRecDepth 100000 in
theorem v_c124 : c_ok (90316, 36) := Or.inl ⟨by decide, by decide, by decide, w_in (i := 107) ⟨rfl, rfl⟩, by decide +kernel, by decide +kernel, Or.inr (Or.inl ⟨by decide +kernel, by decide +kernel, w_in (i := 1102) ⟨rfl, rfl⟩, w_in (i := 1103) ⟨rfl, rfl⟩, w_in (i := 1104) ⟨rfl, rfl⟩, Or.inl ⟨by decide +kernel, by decide +kernel, rfl⟩⟩)⟩
set_option maxRecDepth 100000 in
theorem v_c125 : c_ok (90319, 51) := Or.inl ⟨by decide, by decide, by decide, w_in (i := 107) ⟨rfl, rfl⟩, by decide +kernel, by decide +kernel, Or.inr (Or.inl ⟨by decide +kernel, by decide +kernel, w_in (i := 1167) ⟨rfl, rfl⟩, w_in (i := 1168) ⟨rfl, rfl⟩, w_in (i := 1169) ⟨rfl, rfl⟩, Or.inl ⟨by decide +kernel, by decide +kernel, rfl⟩⟩)⟩
set_option maxRecDepth 100000 in
theorem v_c126 : c_ok (90322, 37) := Or.inl ⟨by decide, by decide, by decide, w_in (i := 107) ⟨rfl, rfl⟩, by decide +kernel, by decide +kernel, Or.inr (Or.inl ⟨by decide +kernel, by decide +kernel, w_in (i := 1178) ⟨rfl, rfl⟩, w_in (i := 1107) ⟨rfl, rfl⟩, w_in (i := 1108) ⟨rfl, rfl⟩, Or.inl ⟨by decide +kernel, by decide +kernel, rfl⟩⟩)⟩
set_option maxRecDepth 100000 in
theorem v_c127 : c_ok (90325, 351) := Or.inl ⟨by decide, by decide, by decide, w_in (i := 129) ⟨rfl, rfl⟩, by decide +kernel, by decide +kernel, Or.inl ⟨by decide +kernel, by decide +kernel, w_in (i := 1242) ⟨rfl, rfl⟩, w_in (i := 1243) ⟨rfl, rfl⟩⟩⟩
set_option maxRecDepth 100000 in
theorem v_c128 : c_ok (90330, 74) := Or.inl ⟨by decide, by decide, by decide, w_in (i := 114) ⟨rfl, rfl⟩, by decide +kernel, by decide +kernel, Or.inr (Or.inl ⟨by decide +kernel, by decide +kernel, w_in (i := 1262) ⟨rfl, rfl⟩, w_in (i := 1263) ⟨rfl, rfl⟩, w_in (i := 1264) ⟨rfl, rfl⟩, Or.inl ⟨by decide +kernel, by decide +kernel, rfl⟩⟩)⟩
set_option maxRecDepth 100000 in
theorem v_c129 : c_ok (90333, 75) := Or.inl ⟨by decide, by decide, by decide, w_in (i := 114) ⟨rfl, rfl⟩, by decide +kernel, by decide +kernel, Or.inr (Or.inl ⟨by decide +kernel, by decide +kernel, w_in (i := 1266) ⟨rfl, rfl⟩, w_in (i := 1267) ⟨rfl, rfl⟩, w_in (i := 1268) ⟨rfl, rfl⟩, Or.inl ⟨by decide +kernel, by decide +kernel, rfl⟩⟩)⟩
set_option maxRecDepth 100000 in
theorem v_c130 : c_ok (90337, 76) := Or.inl ⟨by decide, by decide, by decide, w_in (i := 114) ⟨rfl, rfl⟩, by decide +kernel, by decide +kernel, Or.inr (Or.inl ⟨by decide +kernel, by decide +kernel, w_in (i := 1270) ⟨rfl, rfl⟩, w_in (i := 1271) ⟨rfl, rfl⟩, w_in (i := 1272) ⟨rfl, rfl⟩, Or.inl ⟨by decide +kernel, by decide +kernel, rfl⟩⟩)⟩
set_option maxRecDepth 100000 in
theorem v_c131 : c_ok (90347, 77) := Or.inl ⟨by decide, by decide, by decide, w_in (i := 114) ⟨rfl, rfl⟩, by decide +kernel, by decide +kernel, Or.inr (Or.inl ⟨by decide +kernel, by decide +kernel, w_in (i := 1282) ⟨rfl, rfl⟩, w_in (i := 1283) ⟨rfl, rfl⟩, w_in (i := 1284) ⟨rfl, rfl⟩, Or.inl ⟨by decide +kernel, by decide +kernel, rfl⟩⟩)⟩
set_option maxRecDepth 100000 in
theorem v_c132 : c_ok (90356, 151) := Or.inl ⟨by decide, by decide, by decide, w_in (i := 105) ⟨rfl, rfl⟩, by decide +kernel, by decide +kernel, Or.inr (Or.inl ⟨by decide +kernel, by decide +kernel, w_in (i := 1302) ⟨rfl, rfl⟩, w_in (i := 1304) ⟨rfl, rfl⟩, w_in (i := 24) ⟨rfl, rfl⟩, Or.inl ⟨by decide +kernel, by decide +kernel, rfl⟩⟩)⟩
set_option maxRecDepth 100000 in
theorem v_c133 : c_ok (90359, 152) := Or.inl ⟨by decide, by decide, by decide, w_in (i := 105) ⟨rfl, rfl⟩, by decide +kernel, by decide +kernel, Or.inr (Or.inl ⟨by decide +kernel, by decide +kernel, w_in (i := 1307) ⟨rfl, rfl⟩, w_in (i := 1309) ⟨rfl, rfl⟩, w_in (i := 25) ⟨rfl, rfl⟩, Or.inl ⟨by decide +kernel, by decide +kernel, rfl⟩⟩)⟩
set_option maxRecDepth 100000 in
theorem v_c134 : c_ok (90362, 11) := Or.inl ⟨by decide, by decide, by decide, w_in (i := 112) ⟨rfl, rfl⟩, by decide +kernel, by decide +kernel, Or.inr (Or.inl ⟨by decide +kernel, by decide +kernel, w_in (i := 1313) ⟨rfl, rfl⟩, w_in (i := 1314) ⟨rfl, rfl⟩, w_in (i := 1315) ⟨rfl, rfl⟩, Or.inl ⟨by decide +kernel, by decide +kernel, rfl⟩⟩)⟩
set_option maxRecDepth 100000 in
theorem v_c135 : c_ok (90365, 83) := Or.inl ⟨by decide, by decide, by decide, w_in (i := 108) ⟨rfl, rfl⟩, by decide +kernel, by decide +kernel, Or.inr (Or.inl ⟨by decide +kernel, by decide +kernel, w_in (i := 1319) ⟨rfl, rfl⟩, w_in (i := 1320) ⟨rfl, rfl⟩, w_in (i := 1321) ⟨rfl, rfl⟩, Or.inl ⟨by decide +kernel, by decide +kernel, rfl⟩⟩)⟩
set_option maxRecDepth 100000 in
theorem v_c136 : c_ok (90368, 81) := Or.inl ⟨by decide, by decide, by decide, w_in (i := 108) ⟨rfl, rfl⟩, by decide +kernel, by decide +kernel, Or.inr (Or.inl ⟨by decide +kernel, by decide +kernel, w_in (i := 1323) ⟨rfl, rfl⟩, w_in (i := 612) ⟨rfl, rfl⟩, w_in (i := 613) ⟨rfl, rfl⟩, Or.inl ⟨by decide +kernel, by decide +kernel, rfl⟩⟩)⟩
set_option maxRecDepth 100000 in
theorem v_c137 : c_ok (90372, 32) := Or.inl ⟨by decide, by decide, by decide, w_in (i := 107) ⟨rfl, rfl⟩, by decide +kernel, by decide +kernel, Or.inr (Or.inl ⟨by decide +kernel, by decide +kernel, w_in (i := 1324) ⟨rfl, rfl⟩, w_in (i := 1325) ⟨rfl, rfl⟩, w_in (i := 1326) ⟨rfl, rfl⟩, Or.inl ⟨by decide +kernel, by decide +kernel, rfl⟩⟩)⟩
set_option maxRecDepth 100000 in
theorem v_c138 : c_ok (90375, 82) := Or.inl ⟨by decide, by decide, by decide, w_in (i := 108) ⟨rfl, rfl⟩, by decide +kernel, by decide +kernel, Or.inr (Or.inl ⟨by decide +kernel, by decide +kernel, w_in (i := 1339) ⟨rfl, rfl⟩, w_in (i := 608) ⟨rfl, rfl⟩, w_in (i := 609) ⟨rfl, rfl⟩, Or.inl ⟨by decide +kernel, by decide +kernel, rfl⟩⟩)⟩
set_option maxRecDepth 100000 in
theorem v_c139 : c_ok (90378, 33) := Or.inl ⟨by decide, by decide, by decide, w_in (i := 107) ⟨rfl, rfl⟩, by decide +kernel, by decide +kernel, Or.inr (Or.inl ⟨by decide +kernel, by decide +kernel, w_in (i := 1347) ⟨rfl, rfl⟩, w_in (i := 1329) ⟨rfl, rfl⟩, w_in (i := 1330) ⟨rfl, rfl⟩, Or.inl ⟨by decide +kernel, by decide +kernel, rfl⟩⟩)⟩
set_option maxRecDepth 100000 in
theorem v_c140 : c_ok (90381, 34) := Or.inl ⟨by decide, by decide, by decide, w_in (i := 107) ⟨rfl, rfl⟩, by decide +kernel, by decide +kernel, Or.inr (Or.inl ⟨by decide +kernel, by decide +kernel, w_in (i := 1355) ⟨rfl, rfl⟩, w_in (i := 1115) ⟨rfl, rfl⟩, w_in (i := 1116) ⟨rfl, rfl⟩, Or.inl ⟨by decide +kernel, by decide +kernel, rfl⟩⟩)⟩
set_option maxRecDepth 100000 in
theorem v_c141 : c_ok (90386, 18) := Or.inl ⟨by decide, by decide, by decide, w_in (i := 111) ⟨rfl, rfl⟩, by decide +kernel, by decide +kernel, Or.inr (Or.inl ⟨by decide +kernel, by decide +kernel, w_in (i := 1371) ⟨rfl, rfl⟩, w_in (i := 715) ⟨rfl, rfl⟩, w_in (i := 716) ⟨rfl, rfl⟩, Or.inl ⟨by decide +kernel, by decide +kernel, rfl⟩⟩)⟩
set_option maxRecDepth 100000 in
theorem v_c142 : c_ok (90391, 19) := Or.inl ⟨by decide, by decide, by decide, w_in (i := 111) ⟨rfl, rfl⟩, by decide +kernel, by decide +kernel, Or.inr (Or.inl ⟨by decide +kernel, by decide +kernel, w_in (i := 1380) ⟨rfl, rfl⟩, w_in (i := 1381) ⟨rfl, rfl⟩, w_in (i := 1382) ⟨rfl, rfl⟩, Or.inl ⟨by decide +kernel, by decide +kernel, rfl⟩⟩)⟩
set_option maxRecDepth 100000 in
theorem v_c143 : c_ok (90394, 21) := Or.inl ⟨by decide, by decide, by decide, w_in (i := 111) ⟨rfl, rfl⟩, by decide +kernel, by decide +kernel, Or.inr (Or.inl ⟨by decide +kernel, by decide +kernel, w_in (i := 1405) ⟨rfl, rfl⟩, w_in (i := 1406) ⟨rfl, rfl⟩, w_in (i := 1407) ⟨rfl, rfl⟩, Or.inl ⟨by decide +kernel, by decide +kernel, rfl⟩⟩)⟩
set_option maxRecDepth 100000 in
theorem v_c144 : c_ok (90404, 12) := Or.inl ⟨by decide, by decide, by decide, w_in (i := 112) ⟨rfl, rfl⟩, by decide +kernel, by decide +kernel, Or.inr (Or.inl ⟨by decide +kernel, by decide +kernel, w_in (i := 1417) ⟨rfl, rfl⟩, w_in (i := 1418) ⟨rfl, rfl⟩, w_in (i := 1419) ⟨rfl, rfl⟩, Or.inl ⟨by decide +kernel, by decide +kernel, rfl⟩⟩)⟩
set_option maxRecDepth 100000 in
theorem v_c145 : c_ok (90407, 148) := Or.inl ⟨by decide, by decide, by decide, w_in (i := 105) ⟨rfl, rfl⟩, by decide +kernel, by decide +kernel, Or.inr (Or.inl ⟨by decide +kernel, by decide +kernel, w_in (i := 1428) ⟨rfl, rfl⟩, w_in (i := 1430) ⟨rfl, rfl⟩, w_in (i := 26) ⟨rfl, rfl⟩, Or.inl ⟨by decide +kernel, by decide +kernel, rfl⟩⟩)⟩
set_option maxRecDepth 100000 in
theorem v_c146 : c_ok (90426, 2) := Or.inl ⟨by decide, by decide, by decide, w_in (i := 109) ⟨rfl, rfl⟩, by decide +kernel, by decide +kernel, Or.inr (Or.inl ⟨by decide +kernel, by decide +kernel, w_in (i := 1311) ⟨rfl, rfl⟩, w_in (i := 1111) ⟨rfl, rfl⟩, w_in (i := 1112) ⟨rfl, rfl⟩, Or.inl ⟨by decide +kernel, by decide +kernel, rfl⟩⟩)⟩
set_option maxRecDepth 100000 in
theorem v_c147 : c_ok (100001, 1000) := Or.inr (Or.inl ⟨rfl, w_in (i := 1446) ⟨rfl, rfl⟩⟩)
set_option maxRecDepth 100000 in
theorem v_c148 : c_ok (100053, 157) := Or.inl ⟨by decide, by decide, by decide, w_in (i := 115) ⟨rfl, rfl⟩, by decide +kernel, by decide +kernel, Or.inr (Or.inl ⟨by decide +kernel, by decide +kernel, w_in (i := 1551) ⟨rfl, rfl⟩, w_in (i := 1553) ⟨rfl, rfl⟩, w_in (i := 27) ⟨rfl, rfl⟩, Or.inl ⟨by decide +kernel, by decide +kernel, rfl⟩⟩)⟩
set_option maxRecDepth 100000 in
theorem v_c149 : c_ok (100057, 158) := Or.inl ⟨by decide, by decide, by decide, w_in (i := 115) ⟨rfl, rfl⟩, by decide +kernel, by decide +kernel, Or.inr (Or.inl ⟨by decide +kernel, by decide +kernel, w_in (i := 1625) ⟨rfl, rfl⟩, w_in (i := 1627) ⟨rfl, rfl⟩, w_in (i := 40) ⟨rfl, rfl⟩, Or.inl ⟨by decide +kernel, by decide +kernel, rfl⟩⟩)⟩
set_option maxRecDepth 100000 in
theorem v_c150 : c_ok (100061, 155) := Or.inl ⟨by decide, by decide, by decide, w_in (i := 115) ⟨rfl, rfl⟩, by decide +kernel, by decide +kernel, Or.inl ⟨by decide +kernel, by decide +kernel, w_in (i := 1548) ⟨rfl, rfl⟩, w_in (i := 1549) ⟨rfl, rfl⟩⟩⟩
set_option maxRecDepth 100000 in
theorem v_c151 : c_ok (100071, 164) := Or.inl ⟨by decide, by decide, by decide, w_in (i := 115) ⟨rfl, rfl⟩, by decide +kernel, by decide +kernel, Or.inl ⟨by decide +kernel, by decide +kernel, w_in (i := 1576) ⟨rfl, rfl⟩, w_in (i := 1577) ⟨rfl, rfl⟩⟩⟩
set_option maxRecDepth 100000 in
theorem v_c152 : c_ok (100075, 171) := Or.inl ⟨by decide, by decide, by decide, w_in (i := 115) ⟨rfl, rfl⟩, by decide +kernel, by decide +kernel, Or.inr (Or.inl ⟨by decide +kernel, by decide +kernel, w_in (i := 1718) ⟨rfl, rfl⟩, w_in (i := 1720) ⟨rfl, rfl⟩, w_in (i := 57) ⟨rfl, rfl⟩, Or.inl ⟨by decide +kernel, by decide +kernel, rfl⟩⟩)⟩
set_option maxRecDepth 100000 in
theorem v_c153 : c_ok (100079, 166) := Or.inl ⟨by decide, by decide, by decide, w_in (i := 115) ⟨rfl, rfl⟩, by decide +kernel, by decide +kernel, Or.inr (Or.inl ⟨by decide +kernel, by decide +kernel, w_in (i := 1617) ⟨rfl, rfl⟩, w_in (i := 1619) ⟨rfl, rfl⟩, w_in (i := 39) ⟨rfl, rfl⟩, Or.inl ⟨by decide +kernel, by decide +kernel, rfl⟩⟩)⟩
set_option maxRecDepth 100000 in
theorem v_c154 : c_ok (100082, 165) := Or.inl ⟨by decide, by decide, by decide, w_in (i := 115) ⟨rfl, rfl⟩, by decide +kernel, by decide +kernel, Or.inr (Or.inl ⟨by decide +kernel, by decide +kernel, w_in (i := 1638) ⟨rfl, rfl⟩, w_in (i := 1640) ⟨rfl, rfl⟩, w_in (i := 43) ⟨rfl, rfl⟩, Or.inl ⟨by decide +kernel, by decide +kernel, rfl⟩⟩)⟩
set_option maxRecDepth 100000 in
theorem v_c155 : c_ok (100098, 179) := Or.inl ⟨by decide, by decide, by decide, w_in (i := 115) ⟨rfl, rfl⟩, by decide +kernel, by decide +kernel, Or.inr (Or.inl ⟨by decide +kernel, by decide +kernel, w_in (i := 1562) ⟨rfl, rfl⟩, w_in (i := 1564) ⟨rfl, rfl⟩, w_in (i := 29) ⟨rfl, rfl⟩, Or.inl ⟨by decide +kernel, by decide +kernel, rfl⟩⟩)⟩
set_option maxRecDepth 100000 in
theorem v_c156 : c_ok (100108, 180) := Or.inl ⟨by decide, by decide, by decide, w_in (i := 115) ⟨rfl, rfl⟩, by decide +kernel, by decide +kernel, Or.inl ⟨by decide +kernel, by decide +kernel, w_in (i := 1566) ⟨rfl, rfl⟩, w_in (i := 1567) ⟨rfl, rfl⟩⟩⟩
set_option maxRecDepth 100000 in
theorem v_c157 : c_ok (100111, 181) := Or.inl ⟨by decide, by decide, by decide, w_in (i := 115) ⟨rfl, rfl⟩, by decide +kernel, by decide +kernel, Or.inl ⟨by decide +kernel, by decide +kernel, w_in (i := 1569) ⟨rfl, rfl⟩, w_in (i := 1570) ⟨rfl, rfl⟩⟩⟩
set_option maxRecDepth 100000 in
theorem v_c158 : c_ok (100123, 183) := Or.inl ⟨by decide, by decide, by decide, w_in (i := 115) ⟨rfl, rfl⟩, by decide +kernel, by decide +kernel, Or.inr (Or.inl ⟨by decide +kernel, by decide +kernel, w_in (i := 1590) ⟨rfl, rfl⟩, w_in (i := 1592) ⟨rfl, rfl⟩, w_in (i := 33) ⟨rfl, rfl⟩, Or.inl ⟨by decide +kernel, by decide +kernel, rfl⟩⟩)⟩
set_option maxRecDepth 100000 in
theorem v_c159 : c_ok (100127, 182) := Or.inl ⟨by decide, by decide, by decide, w_in (i := 115) ⟨rfl, rfl⟩, by decide +kernel, by decide +kernel, Or.inr (Or.inl ⟨by decide +kernel, by decide +kernel, w_in (i := 1558) ⟨rfl, rfl⟩, w_in (i := 1560) ⟨rfl, rfl⟩, w_in (i := 28) ⟨rfl, rfl⟩, Or.inl ⟨by decide +kernel, by decide +kernel, rfl⟩⟩)⟩
set_option maxRecDepth 100000 in
theorem v_c160 : c_ok (100130, 352) := Or.inl ⟨by decide, by decide, by decide, w_in (i := 120) ⟨rfl, rfl⟩, by decide +kernel, by decide +kernel, Or.inr (Or.inl ⟨by decide +kernel, by decide +kernel, w_in (i := 1584) ⟨rfl, rfl⟩, w_in (i := 635) ⟨rfl, rfl⟩, w_in (i := 636) ⟨rfl, rfl⟩, Or.inr ⟨by decide +kernel, rfl⟩⟩)⟩
set_option maxRecDepth 100000 in
theorem v_c161 : c_ok (100135, 353) := Or.inl ⟨by decide, by decide, by decide, w_in (i := 120) ⟨rfl, rfl⟩, by decide +kernel, by decide +kernel, Or.inr (Or.inl ⟨by decide +kernel, by decide +kernel, w_in (i := 1585) ⟨rfl, rfl⟩, w_in (i := 645) ⟨rfl, rfl⟩, w_in (i := 646) ⟨rfl, rfl⟩, Or.inr ⟨by decide +kernel, rfl⟩⟩)⟩
set_option maxRecDepth 100000 in
theorem v_c162 : c_ok (100139, 185) := Or.inl ⟨by decide, by decide, by decide, w_in (i := 115) ⟨rfl, rfl⟩, by decide +kernel, by decide +kernel, Or.inr (Or.inl ⟨by decide +kernel, by decide +kernel, w_in (i := 1594) ⟨rfl, rfl⟩, w_in (i := 1596) ⟨rfl, rfl⟩, w_in (i := 34) ⟨rfl, rfl⟩, Or.inl ⟨by decide +kernel, by decide +kernel, rfl⟩⟩)⟩
set_option maxRecDepth 100000 in
theorem v_c163 : c_ok (100142, 184) := Or.inl ⟨by decide, by decide, by decide, w_in (i := 115) ⟨rfl, rfl⟩, by decide +kernel, by decide +kernel, Or.inr (Or.inl ⟨by decide +kernel, by decide +kernel, w_in (i := 1586) ⟨rfl, rfl⟩, w_in (i := 1588) ⟨rfl, rfl⟩, w_in (i := 32) ⟨rfl, rfl⟩, Or.inl ⟨by decide +kernel, by decide +kernel, rfl⟩⟩)⟩
set_option maxRecDepth 100000 in
theorem v_c164 : c_ok (100146, 187) := Or.inl ⟨by decide, by decide, by decide, w_in (i := 115) ⟨rfl, rfl⟩, by decide +kernel, by decide +kernel, Or.inr (Or.inl ⟨by decide +kernel, by decide +kernel, w_in (i := 1598) ⟨rfl, rfl⟩, w_in (i := 1600) ⟨rfl, rfl⟩, w_in (i := 35) ⟨rfl, rfl⟩, Or.inl ⟨by decide +kernel, by decide +kernel, rfl⟩⟩)⟩
set_option maxRecDepth 100000 in
theorem v_c165 : c_ok (100149, 167) := Or.inl ⟨by decide, by decide, by decide, w_in (i := 115) ⟨rfl, rfl⟩, by decide +kernel, by decide +kernel, Or.inr (Or.inl ⟨by decide +kernel, by decide +kernel, w_in (i := 1612) ⟨rfl, rfl⟩, w_in (i := 1614) ⟨rfl, rfl⟩, w_in (i := 38) ⟨rfl, rfl⟩, Or.inl ⟨by decide +kernel, by decide +kernel, rfl⟩⟩)⟩
set_option maxRecDepth 100000 in
theorem v_c166 : c_ok (100155, 186) := Or.inl ⟨by decide, by decide, by decide, w_in (i := 115) ⟨rfl, rfl⟩, by decide +kernel, by decide +kernel, Or.inr (Or.inl ⟨by decide +kernel, by decide +kernel, w_in (i := 1580) ⟨rfl, rfl⟩, w_in (i := 1582) ⟨rfl, rfl⟩, w_in (i := 31) ⟨rfl, rfl⟩, Or.inl ⟨by decide +kernel, by decide +kernel, rfl⟩⟩)⟩
set_option maxRecDepth 100000 in
theorem v_c167 : c_ok (100163, 188) := Or.inl ⟨by decide, by decide, by decide, w_in (i := 115) ⟨rfl, rfl⟩, by decide +kernel, by decide +kernel, Or.inr (Or.inl ⟨by decide +kernel, by decide +kernel, w_in (i := 1603) ⟨rfl, rfl⟩, w_in (i := 1605) ⟨rfl, rfl⟩, w_in (i := 36) ⟨rfl, rfl⟩, Or.inl ⟨by decide +kernel, by decide +kernel, rfl⟩⟩)⟩
set_option maxRecDepth 100000 in
theorem v_c168 : c_ok (100168, 189) := Or.inl ⟨by decide, by decide, by decide, w_in (i := 115) ⟨rfl, rfl⟩, by decide +kernel, by decide +kernel, Or.inr (Or.inl ⟨by decide +kernel, by decide +kernel, w_in (i := 1608) ⟨rfl, rfl⟩, w_in (i := 1610) ⟨rfl, rfl⟩, w_in (i := 37) ⟨rfl, rfl⟩, Or.inl ⟨by decide +kernel, by decide +kernel, rfl⟩⟩)⟩
set_option maxRecDepth 100000 in
theorem v_c169 : c_ok (100171, 163) := Or.inl ⟨by decide, by decide, by decide, w_in (i := 115) ⟨rfl, rfl⟩, by decide +kernel, by decide +kernel, Or.inl ⟨by decide +kernel, by decide +kernel, w_in (i := 1555) ⟨rfl, rfl⟩, w_in (i := 1556) ⟨rfl, rfl⟩⟩⟩
set_option maxRecDepth 100000 in
theorem v_c170 : c_ok (100175, 190) := Or.inl ⟨by decide, by decide, by decide, w_in (i := 115) ⟨rfl, rfl⟩, by decide +kernel, by decide +kernel, Or.inr (Or.inl ⟨by decide +kernel, by decide +kernel, w_in (i := 1572) ⟨rfl, rfl⟩, w_in (i := 1574) ⟨rfl, rfl⟩, w_in (i := 30) ⟨rfl, rfl⟩, Or.inl ⟨by decide +kernel, by decide +kernel, rfl⟩⟩)⟩
set_option maxRecDepth 100000 in
theorem v_c171 : c_ok (100181, 169) := Or.inl ⟨by decide, by decide, by decide, w_in (i := 115) ⟨rfl, rfl⟩, by decide +kernel, by decide +kernel, Or.inr (Or.inl ⟨by decide +kernel, by decide +kernel, w_in (i := 1649) ⟨rfl, rfl⟩, w_in (i := 1651) ⟨rfl, rfl⟩, w_in (i := 45) ⟨rfl, rfl⟩, Or.inl ⟨by decide +kernel, by decide +kernel, rfl⟩⟩)⟩
set_option maxRecDepth 100000 in
theorem v_c172 : c_ok (100184, 1003) := Or.inr (Or.inr (Or.inr (Or.inr (⟨rfl, w_in (i := 1699) ⟨rfl, rfl⟩⟩))))
set_option maxRecDepth 100000 in
theorem v_c173 : c_ok (100193, 194) := Or.inl ⟨by decide, by decide, by decide, w_in (i := 115) ⟨rfl, rfl⟩, by decide +kernel, by decide +kernel, Or.inr (Or.inl ⟨by decide +kernel, by decide +kernel, w_in (i := 1695) ⟨rfl, rfl⟩, w_in (i := 1697) ⟨rfl, rfl⟩, w_in (i := 53) ⟨rfl, rfl⟩, Or.inl ⟨by decide +kernel, by decide +kernel, rfl⟩⟩)⟩
set_option maxRecDepth 100000 in
theorem v_c174 : c_ok (100196, 195) := Or.inl ⟨by decide, by decide, by decide, w_in (i := 115) ⟨rfl, rfl⟩, by decide +kernel, by decide +kernel, Or.inr (Or.inl ⟨by decide +kernel, by decide +kernel, w_in (i := 1700) ⟨rfl, rfl⟩, w_in (i := 1702) ⟨rfl, rfl⟩, w_in (i := 54) ⟨rfl, rfl⟩, Or.inl ⟨by decide +kernel, by decide +kernel, rfl⟩⟩)⟩
set_option maxRecDepth 100000 in
theorem v_c175 : c_ok (100200, 196) := Or.inl ⟨by decide, by decide, by decide, w_in (i := 115) ⟨rfl, rfl⟩, by decide +kernel, by decide +kernel, Or.inr (Or.inl ⟨by decide +kernel, by decide +kernel, w_in (i := 1691) ⟨rfl, rfl⟩, w_in (i := 1693) ⟨rfl, rfl⟩, w_in (i := 52) ⟨rfl, rfl⟩, Or.inl ⟨by decide +kernel, by decide +kernel, rfl⟩⟩)⟩
set_option maxRecDepth 100000 in
theorem v_c176 : c_ok (100204, 156) := Or.inl ⟨by decide, by decide, by decide, w_in (i := 115) ⟨rfl, rfl⟩, by decide +kernel, by decide +kernel, Or.inl ⟨by decide +kernel, by decide +kernel, w_in (i := 1642) ⟨rfl, rfl⟩, w_in (i := 1643) ⟨rfl, rfl⟩⟩⟩
set_option maxRecDepth 100000 in
theorem v_c177 : c_ok (100208, 198) := Or.inl ⟨by decide, by decide, by decide, w_in (i := 115) ⟨rfl, rfl⟩, by decide +kernel, by decide +kernel, Or.inr (Or.inl ⟨by decide +kernel, by decide +kernel, w_in (i := 1710) ⟨rfl, rfl⟩, w_in (i := 1712) ⟨rfl, rfl⟩, w_in (i := 56) ⟨rfl, rfl⟩, Or.inl ⟨by decide +kernel, by decide +kernel, rfl⟩⟩)⟩
set_option maxRecDepth 100000 in
theorem v_c178 : c_ok (100211, 1002) := Or.inr (Or.inr (Or.inr (Or.inl ⟨rfl, w_in (i := 1788) ⟨rfl, rfl⟩⟩)))
set_option maxRecDepth 100000 in
theorem v_c179 : c_ok (100214, 201) := Or.inl ⟨by decide, by decide, by decide, w_in (i := 115) ⟨rfl, rfl⟩, by decide +kernel, by decide +kernel, Or.inr (Or.inl ⟨by decide +kernel, by decide +kernel, w_in (i := 1895) ⟨rfl, rfl⟩, w_in (i := 1897) ⟨rfl, rfl⟩, w_in (i := 84) ⟨rfl, rfl⟩, Or.inl ⟨by decide +kernel, by decide +kernel, rfl⟩⟩)⟩
set_option maxRecDepth 100000 in
theorem v_c180 : c_ok (100218, 170) := Or.inl ⟨by decide, by decide, by decide, w_in (i := 115) ⟨rfl, rfl⟩, by decide +kernel, by decide +kernel, Or.inr (Or.inl ⟨by decide +kernel, by decide +kernel, w_in (i := 1706) ⟨rfl, rfl⟩, w_in (i := 1708) ⟨rfl, rfl⟩, w_in (i := 55) ⟨rfl, rfl⟩, Or.inl ⟨by decide +kernel, by decide +kernel, rfl⟩⟩)⟩
set_option maxRecDepth 100000 in
theorem v_c181 : c_ok (100221, 168) := Or.inl ⟨by decide, by decide, by decide, w_in (i := 115) ⟨rfl, rfl⟩, by decide +kernel, by decide +kernel, Or.inr (Or.inl ⟨by decide +kernel, by decide +kernel, w_in (i := 1883) ⟨rfl, rfl⟩, w_in (i := 1885) ⟨rfl, rfl⟩, w_in (i := 81) ⟨rfl, rfl⟩, Or.inl ⟨by decide +kernel, by decide +kernel, rfl⟩⟩)⟩
set_option maxRecDepth 100000 in
theorem v_c182 : c_ok (100224, 174) := Or.inl ⟨by decide, by decide, by decide, w_in (i := 115) ⟨rfl, rfl⟩, by decide +kernel, by decide +kernel, Or.inr (Or.inl ⟨by decide +kernel, by decide +kernel, w_in (i := 1899) ⟨rfl, rfl⟩, w_in (i := 1901) ⟨rfl, rfl⟩, w_in (i := 85) ⟨rfl, rfl⟩, Or.inl ⟨by decide +kernel, by decide +kernel, rfl⟩⟩)⟩
set_option maxRecDepth 100000 in
theorem v_c183 : c_ok (100227, 203) := Or.inl ⟨by decide, by decide, by decide, w_in (i := 115) ⟨rfl, rfl⟩, by decide +kernel, by decide +kernel, Or.inr (Or.inl ⟨by decide +kernel, by decide +kernel, w_in (i := 1891) ⟨rfl, rfl⟩, w_in (i := 1893) ⟨rfl, rfl⟩, w_in (i := 83) ⟨rfl, rfl⟩, Or.inl ⟨by decide +kernel, by decide +kernel, rfl⟩⟩)⟩
set_option maxRecDepth 100000 in
theorem v_c184 : c_ok (100230, 202) := Or.inl ⟨by decide, by decide, by decide, w_in (i := 115) ⟨rfl, rfl⟩, by decide +kernel, by decide +kernel, Or.inr (Or.inl ⟨by decide +kernel, by decide +kernel, w_in (i := 1903) ⟨rfl, rfl⟩, w_in (i := 1905) ⟨rfl, rfl⟩, w_in (i := 86) ⟨rfl, rfl⟩, Or.inl ⟨by decide +kernel, by decide +kernel, rfl⟩⟩)⟩
set_option maxRecDepth 100000 in
theorem v_c185 : c_ok (100233, 205) := Or.inl ⟨by decide, by decide, by decide, w_in (i := 115) ⟨rfl, rfl⟩, by decide +kernel, by decide +kernel, Or.inr (Or.inl ⟨by decide +kernel, by decide +kernel, w_in (i := 1879) ⟨rfl, rfl⟩, w_in (i := 1881) ⟨rfl, rfl⟩, w_in (i := 80) ⟨rfl, rfl⟩, Or.inl ⟨by decide +kernel, by decide +kernel, rfl⟩⟩)⟩
set_option maxRecDepth 100000 in
theorem v_c186 : c_ok (100237, 204) := Or.inl ⟨by decide, by decide, by decide, w_in (i := 115) ⟨rfl, rfl⟩, by decide +kernel, by decide +kernel, Or.inr (Or.inl ⟨by decide +kernel, by decide +kernel, w_in (i := 1887) ⟨rfl, rfl⟩, w_in (i := 1889) ⟨rfl, rfl⟩, w_in (i := 82) ⟨rfl, rfl⟩, Or.inl ⟨by decide +kernel, by decide +kernel, rfl⟩⟩)⟩
set_option maxRecDepth 100000 in
theorem v_c187 : c_ok (100239, 192) := Or.inl ⟨by decide, by decide, by decide, w_in (i := 115) ⟨rfl, rfl⟩, by decide +kernel, by decide +kernel, Or.inr (Or.inl ⟨by decide +kernel, by decide +kernel, w_in (i := 1923) ⟨rfl, rfl⟩, w_in (i := 1925) ⟨rfl, rfl⟩, w_in (i := 90) ⟨rfl, rfl⟩, Or.inl ⟨by decide +kernel, by decide +kernel, rfl⟩⟩)⟩
set_option maxRecDepth 100000 in
theorem v_c188 : c_ok (100242, 193) := Or.inl ⟨by decide, by decide, by decide, w_in (i := 115) ⟨rfl, rfl⟩, by decide +kernel, by decide +kernel, Or.inr (Or.inl ⟨by decide +kernel, by decide +kernel, w_in (i := 1927) ⟨rfl, rfl⟩, w_in (i := 1929) ⟨rfl, rfl⟩, w_in (i := 91) ⟨rfl, rfl⟩, Or.inl ⟨by decide +kernel, by decide +kernel, rfl⟩⟩)⟩
set_option maxRecDepth 100000 in
theorem v_c189 : c_ok (100245, 200) := Or.inl ⟨by decide, by decide, by decide, w_in (i := 115) ⟨rfl, rfl⟩, by decide +kernel, by decide +kernel, Or.inr (Or.inl ⟨by decide +kernel, by decide +kernel, w_in (i := 1810) ⟨rfl, rfl⟩, w_in (i := 1812) ⟨rfl, rfl⟩, w_in (i := 71) ⟨rfl, rfl⟩, Or.inl ⟨by decide +kernel, by decide +kernel, rfl⟩⟩)⟩
set_option maxRecDepth 100000 in
theorem v_c190 : c_ok (100248, 206) := Or.inl ⟨by decide, by decide, by decide, w_in (i := 115) ⟨rfl, rfl⟩, by decide +kernel, by decide +kernel, Or.inr (Or.inl ⟨by decide +kernel, by decide +kernel, w_in (i := 1875) ⟨rfl, rfl⟩, w_in (i := 1877) ⟨rfl, rfl⟩, w_in (i := 79) ⟨rfl, rfl⟩, Or.inl ⟨by decide +kernel, by decide +kernel, rfl⟩⟩)⟩
set_option maxRecDepth 100000 in
theorem v_c191 : c_ok (100252, 199) := Or.inl ⟨by decide, by decide, by decide, w_in (i := 115) ⟨rfl, rfl⟩, by decide +kernel, by decide +kernel, Or.inr (Or.inl ⟨by decide +kernel, by decide +kernel, w_in (i := 1931) ⟨rfl, rfl⟩, w_in (i := 1933) ⟨rfl, rfl⟩, w_in (i := 92) ⟨rfl, rfl⟩, Or.inl ⟨by decide +kernel, by decide +kernel, rfl⟩⟩)⟩
set_option maxRecDepth 100000 in
theorem v_c192 : c_ok (100255, 207) := Or.inl ⟨by decide, by decide, by decide, w_in (i := 115) ⟨rfl, rfl⟩, by decide +kernel, by decide +kernel, Or.inr (Or.inl ⟨by decide +kernel, by decide +kernel, w_in (i := 1919) ⟨rfl, rfl⟩, w_in (i := 1921) ⟨rfl, rfl⟩, w_in (i := 89) ⟨rfl, rfl⟩, Or.inl ⟨by decide +kernel, by decide +kernel, rfl⟩⟩)⟩
set_option maxRecDepth 100000 in
theorem v_c193 : c_ok (100258, 209) := Or.inl ⟨by decide, by decide, by decide, w_in (i := 115) ⟨rfl, rfl⟩, by decide +kernel, by decide +kernel, Or.inr (Or.inl ⟨by decide +kernel, by decide +kernel, w_in (i := 1661) ⟨rfl, rfl⟩, w_in (i := 1663) ⟨rfl, rfl⟩, w_in (i := 48) ⟨rfl, rfl⟩, Or.inl ⟨by decide +kernel, by decide +kernel, rfl⟩⟩)⟩
set_option maxRecDepth 100000 in
theorem v_c194 : c_ok (100262, 210) := Or.inl ⟨by decide, by decide, by decide, w_in (i := 115) ⟨rfl, rfl⟩, by decide +kernel, by decide +kernel, Or.inr (Or.inl ⟨by decide +kernel, by decide +kernel, w_in (i := 1657) ⟨rfl, rfl⟩, w_in (i := 1659) ⟨rfl, rfl⟩, w_in (i := 47) ⟨rfl, rfl⟩, Or.inl ⟨by decide +kernel, by decide +kernel, rfl⟩⟩)⟩
set_option maxRecDepth 100000 in
theorem v_c195 : c_ok (100265, 173) := Or.inl ⟨by decide, by decide, by decide, w_in (i := 115) ⟨rfl, rfl⟩, by decide +kernel, by decide +kernel, Or.inr (Or.inl ⟨by decide +kernel, by decide +kernel, w_in (i := 1634) ⟨rfl, rfl⟩, w_in (i := 1636) ⟨rfl, rfl⟩, w_in (i := 42) ⟨rfl, rfl⟩, Or.inl ⟨by decide +kernel, by decide +kernel, rfl⟩⟩)⟩
set_option maxRecDepth 100000 in
theorem v_c196 : c_ok (100268, 212) := Or.inl ⟨by decide, by decide, by decide, w_in (i := 115) ⟨rfl, rfl⟩, by decide +kernel, by decide +kernel, Or.inr (Or.inl ⟨by decide +kernel, by decide +kernel, w_in (i := 1630) ⟨rfl, rfl⟩, w_in (i := 1632) ⟨rfl, rfl⟩, w_in (i := 41) ⟨rfl, rfl⟩, Or.inl ⟨by decide +kernel, by decide +kernel, rfl⟩⟩)⟩
set_option maxRecDepth 100000 in
theorem v_c197 : c_ok (100271, 213) := Or.inl ⟨by decide, by decide, by decide, w_in (i := 115) ⟨rfl, rfl⟩, by decide +kernel, by decide +kernel, Or.inr (Or.inl ⟨by decide +kernel, by decide +kernel, w_in (i := 1645) ⟨rfl, rfl⟩, w_in (i := 1647) ⟨rfl, rfl⟩, w_in (i := 44) ⟨rfl, rfl⟩, Or.inl ⟨by decide +kernel, by decide +kernel, rfl⟩⟩)⟩
set_option maxRecDepth 100000 in
theorem v_c198 : c_ok (100274, 211) := Or.inl ⟨by decide, by decide, by decide, w_in (i := 115) ⟨rfl, rfl⟩, by decide +kernel, by decide +kernel, Or.inr (Or.inl ⟨by decide +kernel, by decide +kernel, w_in (i := 1653) ⟨rfl, rfl⟩, w_in (i := 1655) ⟨rfl, rfl⟩, w_in (i := 46) ⟨rfl, rfl⟩, Or.inl ⟨by decide +kernel, by decide +kernel, rfl⟩⟩)⟩
set_option maxRecDepth 100000 in
theorem v_c199 : c_ok (100277, 214) := Or.inl ⟨by decide, by decide, by decide, w_in (i := 115) ⟨rfl, rfl⟩, by decide +kernel, by decide +kernel, Or.inr (Or.inl ⟨by decide +kernel, by decide +kernel, w_in (i := 1665) ⟨rfl, rfl⟩, w_in (i := 1667) ⟨rfl, rfl⟩, w_in (i := 49) ⟨rfl, rfl⟩, Or.inl ⟨by decide +kernel, by decide +kernel, rfl⟩⟩)⟩
set_option maxRecDepth 100000 in
theorem v_c200 : c_ok (100280, 160) := Or.inl ⟨by decide, by decide, by decide, w_in (i := 115) ⟨rfl, rfl⟩, by decide +kernel, by decide +kernel, Or.inr (Or.inl ⟨by decide +kernel, by decide +kernel, w_in (i := 1673) ⟨rfl, rfl⟩, w_in (i := 1675) ⟨rfl, rfl⟩, w_in (i := 50) ⟨rfl, rfl⟩, Or.inl ⟨by decide +kernel, by decide +kernel, rfl⟩⟩)⟩
set_option maxRecDepth 100000 in
theorem v_c201 : c_ok (100283, 161) := Or.inl ⟨by decide, by decide, by decide, w_in (i := 115) ⟨rfl, rfl⟩, by decide +kernel, by decide +kernel, Or.inl ⟨by decide +kernel, by decide +kernel, w_in (i := 1678) ⟨rfl, rfl⟩, w_in (i := 1679) ⟨rfl, rfl⟩⟩⟩
set_option maxRecDepth 100000 in
theorem v_c202 : c_ok (100290, 197) := Or.inl ⟨by decide, by decide, by decide, w_in (i := 115) ⟨rfl, rfl⟩, by decide +kernel, by decide +kernel, Or.inr (Or.inl ⟨by decide +kernel, by decide +kernel, w_in (i := 1687) ⟨rfl, rfl⟩, w_in (i := 1689) ⟨rfl, rfl⟩, w_in (i := 51) ⟨rfl, rfl⟩, Or.inl ⟨by decide +kernel, by decide +kernel, rfl⟩⟩)⟩
set_option maxRecDepth 100000 in
theorem v_c203 : c_ok (100293, 172) := Or.inl ⟨by decide, by decide, by decide, w_in (i := 115) ⟨rfl, rfl⟩, by decide +kernel, by decide +kernel, Or.inr (Or.inl ⟨by decide +kernel, by decide +kernel, w_in (i := 1726) ⟨rfl, rfl⟩, w_in (i := 1728) ⟨rfl, rfl⟩, w_in (i := 59) ⟨rfl, rfl⟩, Or.inl ⟨by decide +kernel, by decide +kernel, rfl⟩⟩)⟩
set_option maxRecDepth 100000 in
theorem v_c204 : c_ok (100296, 218) := Or.inl ⟨by decide, by decide, by decide, w_in (i := 115) ⟨rfl, rfl⟩, by decide +kernel, by decide +kernel, Or.inr (Or.inl ⟨by decide +kernel, by decide +kernel, w_in (i := 1722) ⟨rfl, rfl⟩, w_in (i := 1724) ⟨rfl, rfl⟩, w_in (i := 58) ⟨rfl, rfl⟩, Or.inl ⟨by decide +kernel, by decide +kernel, rfl⟩⟩)⟩
set_option maxRecDepth 100000 in
theorem v_c205 : c_ok (100299, 219) := Or.inl ⟨by decide, by decide, by decide, w_in (i := 115) ⟨rfl, rfl⟩, by decide +kernel, by decide +kernel, Or.inr (Or.inl ⟨by decide +kernel, by decide +kernel, w_in (i := 1730) ⟨rfl, rfl⟩, w_in (i := 1732) ⟨rfl, rfl⟩, w_in (i := 60) ⟨rfl, rfl⟩, Or.inl ⟨by decide +kernel, by decide +kernel, rfl⟩⟩)⟩
set_option maxRecDepth 100000 in
theorem v_c206 : c_ok (100302, 221) := Or.inl ⟨by decide, by decide, by decide, w_in (i := 115) ⟨rfl, rfl⟩, by decide +kernel, by decide +kernel, Or.inr (Or.inl ⟨by decide +kernel, by decide +kernel, w_in (i := 1743) ⟨rfl, rfl⟩, w_in (i := 1745) ⟨rfl, rfl⟩, w_in (i := 62) ⟨rfl, rfl⟩, Or.inl ⟨by decide +kernel, by decide +kernel, rfl⟩⟩)⟩
set_option maxRecDepth 100000 in
theorem v_c207 : c_ok (100308, 222) := Or.inl ⟨by decide, by decide, by decide, w_in (i := 115) ⟨rfl, rfl⟩, by decide +kernel, by decide +kernel, Or.inr (Or.inl ⟨by decide +kernel, by decide +kernel, w_in (i := 1739) ⟨rfl, rfl⟩, w_in (i := 1741) ⟨rfl, rfl⟩, w_in (i := 61) ⟨rfl, rfl⟩, Or.inl ⟨by decide +kernel, by decide +kernel, rfl⟩⟩)⟩
set_option maxRecDepth 100000 in
theorem v_c208 : c_ok (100311, 162) := Or.inl ⟨by decide, by decide, by decide, w_in (i := 115) ⟨rfl, rfl⟩, by decide +kernel, by decide +kernel, Or.inl ⟨by decide +kernel, by decide +kernel, w_in (i := 1755) ⟨rfl, rfl⟩, w_in (i := 1756) ⟨rfl, rfl⟩⟩⟩
set_option maxRecDepth 100000 in
theorem v_c209 : c_ok (100316, 224) := Or.inl ⟨by decide, by decide, by decide, w_in (i := 115) ⟨rfl, rfl⟩, by decide +kernel, by decide +kernel, Or.inr (Or.inl ⟨by decide +kernel, by decide +kernel, w_in (i := 1751) ⟨rfl, rfl⟩, w_in (i := 1753) ⟨rfl, rfl⟩, w_in (i := 63) ⟨rfl, rfl⟩, Or.inl ⟨by decide +kernel, by decide +kernel, rfl⟩⟩)⟩
set_option maxRecDepth 100000 in
theorem v_c210 : c_ok (100319, 227) := Or.inl ⟨by decide, by decide, by decide, w_in (i := 115) ⟨rfl, rfl⟩, by decide +kernel, by decide +kernel, Or.inr (Or.inl ⟨by decide +kernel, by decide +kernel, w_in (i := 1768) ⟨rfl, rfl⟩, w_in (i := 1770) ⟨rfl, rfl⟩, w_in (i := 64) ⟨rfl, rfl⟩, Or.inl ⟨by decide +kernel, by decide +kernel, rfl⟩⟩)⟩
set_option maxRecDepth 100000 in
theorem v_c211 : c_ok (100325, 230) := Or.inl ⟨by decide, by decide, by decide, w_in (i := 115) ⟨rfl, rfl⟩, by decide +kernel, by decide +kernel, Or.inr (Or.inl ⟨by decide +kernel, by decide +kernel, w_in (i := 1789) ⟨rfl, rfl⟩, w_in (i := 1791) ⟨rfl, rfl⟩, w_in (i := 68) ⟨rfl, rfl⟩, Or.inl ⟨by decide +kernel, by decide +kernel, rfl⟩⟩)⟩
set_option maxRecDepth 100000 in
theorem v_c212 : c_ok (100328, 229) := Or.inl ⟨by decide, by decide, by decide, w_in (i := 115) ⟨rfl, rfl⟩, by decide +kernel, by decide +kernel, Or.inr (Or.inl ⟨by decide +kernel, by decide +kernel, w_in (i := 1793) ⟨rfl, rfl⟩, w_in (i := 1795) ⟨rfl, rfl⟩, w_in (i := 69) ⟨rfl, rfl⟩, Or.inl ⟨by decide +kernel, by decide +kernel, rfl⟩⟩)⟩
set_option maxRecDepth 100000 in
theorem v_c213 : c_ok (100331, 231) := Or.inl ⟨by decide, by decide, by decide, w_in (i := 115) ⟨rfl, rfl⟩, by decide +kernel, by decide +kernel, Or.inr (Or.inl ⟨by decide +kernel, by decide +kernel, w_in (i := 1784) ⟨rfl, rfl⟩, w_in (i := 1786) ⟨rfl, rfl⟩, w_in (i := 67) ⟨rfl, rfl⟩, Or.inl ⟨by decide +kernel, by decide +kernel, rfl⟩⟩)⟩
set_option maxRecDepth 100000 in
theorem v_c214 : c_ok (100334, 233) := Or.inl ⟨by decide, by decide, by decide, w_in (i := 115) ⟨rfl, rfl⟩, by decide +kernel, by decide +kernel, Or.inr (Or.inl ⟨by decide +kernel, by decide +kernel, w_in (i := 1776) ⟨rfl, rfl⟩, w_in (i := 1778) ⟨rfl, rfl⟩, w_in (i := 65) ⟨rfl, rfl⟩, Or.inl ⟨by decide +kernel, by decide +kernel, rfl⟩⟩)⟩
set_option maxRecDepth 100000 in
theorem v_c215 : c_ok (100337, 232) := Or.inl ⟨by decide, by decide, by decide, w_in (i := 115) ⟨rfl, rfl⟩, by decide +kernel, by decide +kernel, Or.inr (Or.inl ⟨by decide +kernel, by decide +kernel, w_in (i := 1780) ⟨rfl, rfl⟩, w_in (i := 1782) ⟨rfl, rfl⟩, w_in (i := 66) ⟨rfl, rfl⟩, Or.inl ⟨by decide +kernel, by decide +kernel, rfl⟩⟩)⟩
set_option maxRecDepth 100000 in
theorem v_c216 : c_ok (100342, 236) := Or.inl ⟨by decide, by decide, by decide, w_in (i := 115) ⟨rfl, rfl⟩, by decide +kernel, by decide +kernel, Or.inr (Or.inl ⟨by decide +kernel, by decide +kernel, w_in (i := 1822) ⟨rfl, rfl⟩, w_in (i := 1824) ⟨rfl, rfl⟩, w_in (i := 74) ⟨rfl, rfl⟩, Or.inl ⟨by decide +kernel, by decide +kernel, rfl⟩⟩)⟩
set_option maxRecDepth 100000 in
theorem v_c217 : c_ok (100345, 159) := Or.inl ⟨by decide, by decide, by decide, w_in (i := 115) ⟨rfl, rfl⟩, by decide +kernel, by decide +kernel, Or.inr (Or.inl ⟨by decide +kernel, by decide +kernel, w_in (i := 1806) ⟨rfl, rfl⟩, w_in (i := 1808) ⟨rfl, rfl⟩, w_in (i := 70) ⟨rfl, rfl⟩, Or.inl ⟨by decide +kernel, by decide +kernel, rfl⟩⟩)⟩
set_option maxRecDepth 100000 in
theorem v_c218 : c_ok (100348, 238) := Or.inl ⟨by decide, by decide, by decide, w_in (i := 115) ⟨rfl, rfl⟩, by decide +kernel, by decide +kernel, Or.inr (Or.inl ⟨by decide +kernel, by decide +kernel, w_in (i := 1814) ⟨rfl, rfl⟩, w_in (i := 1816) ⟨rfl, rfl⟩, w_in (i := 72) ⟨rfl, rfl⟩, Or.inl ⟨by decide +kernel, by decide +kernel, rfl⟩⟩)⟩
set_option maxRecDepth 100000 in
theorem v_c219 : c_ok (100351, 237) := Or.inl ⟨by decide, by decide, by decide, w_in (i := 115) ⟨rfl, rfl⟩, by decide +kernel, by decide +kernel, Or.inr (Or.inl ⟨by decide +kernel, by decide +kernel, w_in (i := 1818) ⟨rfl, rfl⟩, w_in (i := 1820) ⟨rfl, rfl⟩, w_in (i := 73) ⟨rfl, rfl⟩, Or.inl ⟨by decide +kernel, by decide +kernel, rfl⟩⟩)⟩
set_option maxRecDepth 100000 in
theorem v_c220 : c_ok (100354, 244) := Or.inl ⟨by decide, by decide, by decide, w_in (i := 115) ⟨rfl, rfl⟩, by decide +kernel, by decide +kernel, Or.inr (Or.inl ⟨by decide +kernel, by decide +kernel, w_in (i := 1846) ⟨rfl, rfl⟩, w_in (i := 1848) ⟨rfl, rfl⟩, w_in (i := 75) ⟨rfl, rfl⟩, Or.inl ⟨by decide +kernel, by decide +kernel, rfl⟩⟩)⟩
set_option maxRecDepth 100000 in
theorem v_c221 : c_ok (100357, 247) := Or.inl ⟨by decide, by decide, by decide, w_in (i := 115) ⟨rfl, rfl⟩, by decide +kernel, by decide +kernel, Or.inr (Or.inl ⟨by decide +kernel, by decide +kernel, w_in (i := 1858) ⟨rfl, rfl⟩, w_in (i := 1860) ⟨rfl, rfl⟩, w_in (i := 76) ⟨rfl, rfl⟩, Or.inl ⟨by decide +kernel, by decide +kernel, rfl⟩⟩)⟩
set_option maxRecDepth 100000 in
theorem v_c222 : c_ok (100360, 251) := Or.inl ⟨by decide, by decide, by decide, w_in (i := 115) ⟨rfl, rfl⟩, by decide +kernel, by decide +kernel, Or.inr (Or.inl ⟨by decide +kernel, by decide +kernel, w_in (i := 1866) ⟨rfl, rfl⟩, w_in (i := 1868) ⟨rfl, rfl⟩, w_in (i := 77) ⟨rfl, rfl⟩, Or.inl ⟨by decide +kernel, by decide +kernel, rfl⟩⟩)⟩
set_option maxRecDepth 100000 in
theorem v_c223 : c_ok (100363, 249) := Or.inl ⟨by decide, by decide, by decide, w_in (i := 115) ⟨rfl, rfl⟩, by decide +kernel, by decide +kernel, Or.inr (Or.inl ⟨by decide +kernel, by decide +kernel, w_in (i := 1871) ⟨rfl, rfl⟩, w_in (i := 1873) ⟨rfl, rfl⟩, w_in (i := 78) ⟨rfl, rfl⟩, Or.inl ⟨by decide +kernel, by decide +kernel, rfl⟩⟩)⟩
set_option maxRecDepth 100000 in
theorem v_c224 : c_ok (100366, 252) := Or.inl ⟨by decide, by decide, by decide, w_in (i := 115) ⟨rfl, rfl⟩, by decide +kernel, by decide +kernel, Or.inr (Or.inl ⟨by decide +kernel, by decide +kernel, w_in (i := 1907) ⟨rfl, rfl⟩, w_in (i := 1909) ⟨rfl, rfl⟩, w_in (i := 87) ⟨rfl, rfl⟩, Or.inl ⟨by decide +kernel, by decide +kernel, rfl⟩⟩)⟩
set_option maxRecDepth 100000 in
theorem v_c225 : c_ok (100370, 253) := Or.inl ⟨by decide, by decide, by decide, w_in (i := 115) ⟨rfl, rfl⟩, by decide +kernel, by decide +kernel, Or.inr (Or.inl ⟨by decide +kernel, by decide +kernel, w_in (i := 1915) ⟨rfl, rfl⟩, w_in (i := 1917) ⟨rfl, rfl⟩, w_in (i := 88) ⟨rfl, rfl⟩, Or.inl ⟨by decide +kernel, by decide +kernel, rfl⟩⟩)⟩
set_option maxRecDepth 100000 in
theorem v_c226 : c_ok (100373, 255) := Or.inl ⟨by decide, by decide, by decide, w_in (i := 115) ⟨rfl, rfl⟩, by decide +kernel, by decide +kernel, Or.inr (Or.inl ⟨by decide +kernel, by decide +kernel, w_in (i := 1939) ⟨rfl, rfl⟩, w_in (i := 1941) ⟨rfl, rfl⟩, w_in (i := 93) ⟨rfl, rfl⟩, Or.inl ⟨by decide +kernel, by decide +kernel, rfl⟩⟩)⟩
set_option maxRecDepth 100000 in
theorem v_c227 : c_ok (100376, 257) := Or.inl ⟨by decide, by decide, by decide, w_in (i := 115) ⟨rfl, rfl⟩, by decide +kernel, by decide +kernel, Or.inr (Or.inl ⟨by decide +kernel, by decide +kernel, w_in (i := 1947) ⟨rfl, rfl⟩, w_in (i := 1949) ⟨rfl, rfl⟩, w_in (i := 94) ⟨rfl, rfl⟩, Or.inl ⟨by decide +kernel, by decide +kernel, rfl⟩⟩)⟩
set_option maxRecDepth 100000 in
theorem v_c228 : c_ok (100381, 259) := Or.inl ⟨by decide, by decide, by decide, w_in (i := 115) ⟨rfl, rfl⟩, by decide +kernel, by decide +kernel, Or.inr (Or.inl ⟨by decide +kernel, by decide +kernel, w_in (i := 1955) ⟨rfl, rfl⟩, w_in (i := 1957) ⟨rfl, rfl⟩, w_in (i := 95) ⟨rfl, rfl⟩, Or.inl ⟨by decide +kernel, by decide +kernel, rfl⟩⟩)⟩
set_option maxRecDepth 100000 in
theorem v_c229 : c_ok (100384, 208) := Or.inl ⟨by decide, by decide, by decide, w_in (i := 115) ⟨rfl, rfl⟩, by decide +kernel, by decide +kernel, Or.inr (Or.inl ⟨by decide +kernel, by decide +kernel, w_in (i := 1960) ⟨rfl, rfl⟩, w_in (i := 1962) ⟨rfl, rfl⟩, w_in (i := 96) ⟨rfl, rfl⟩, Or.inl ⟨by decide +kernel, by decide +kernel, rfl⟩⟩)⟩
set_option maxRecDepth 100000 in
theorem v_c230 : c_ok (100387, 262) := Or.inl ⟨by decide, by decide, by decide, w_in (i := 115) ⟨rfl, rfl⟩, by decide +kernel, by decide +kernel, Or.inr (Or.inl ⟨by decide +kernel, by decide +kernel, w_in (i := 1972) ⟨rfl, rfl⟩, w_in (i := 1974) ⟨rfl, rfl⟩, w_in (i := 97) ⟨rfl, rfl⟩, Or.inl ⟨by decide +kernel, by decide +kernel, rfl⟩⟩)⟩
set_option maxRecDepth 100000 in
theorem v_c231 : c_ok (100392, 266) := Or.inl ⟨by decide, by decide, by decide, w_in (i := 115) ⟨rfl, rfl⟩, by decide +kernel, by decide +kernel, Or.inr (Or.inl ⟨by decide +kernel, by decide +kernel, w_in (i := 1989) ⟨rfl, rfl⟩, w_in (i := 1991) ⟨rfl, rfl⟩, w_in (i := 98) ⟨rfl, rfl⟩, Or.inl ⟨by decide +kernel, by decide +kernel, rfl⟩⟩)⟩
set_option maxRecDepth 100000 in
theorem v_c232 : c_ok (100398, 271) := Or.inl ⟨by decide, by decide, by decide, w_in (i := 115) ⟨rfl, rfl⟩, by decide +kernel, by decide +kernel, Or.inr (Or.inl ⟨by decide +kernel, by decide +kernel, w_in (i := 2009) ⟨rfl, rfl⟩, w_in (i := 2011) ⟨rfl, rfl⟩, w_in (i := 99) ⟨rfl, rfl⟩, Or.inl ⟨by decide +kernel, by decide +kernel, rfl⟩⟩)⟩
set_option maxRecDepth 100000 in
theorem v_c233 : c_ok (100401, 272) := Or.inl ⟨by decide, by decide, by decide, w_in (i := 115) ⟨rfl, rfl⟩, by decide +kernel, by decide +kernel, Or.inr (Or.inl ⟨by decide +kernel, by decide +kernel, w_in (i := 2013) ⟨rfl, rfl⟩, w_in (i := 2015) ⟨rfl, rfl⟩, w_in (i := 100) ⟨rfl, rfl⟩, Or.inl ⟨by decide +kernel, by decide +kernel, rfl⟩⟩)⟩
set_option maxRecDepth 100000 in
theorem v_c234 : c_ok (100406, 277) := Or.inl ⟨by decide, by decide, by decide, w_in (i := 115) ⟨rfl, rfl⟩, by decide +kernel, by decide +kernel, Or.inl ⟨by decide +kernel, by decide +kernel, w_in (i := 2037) ⟨rfl, rfl⟩, w_in (i := 2038) ⟨rfl, rfl⟩⟩⟩
set_option maxRecDepth 100000 in
theorem v_c235 : c_ok (100411, 280) := Or.inl ⟨by decide, by decide, by decide, w_in (i := 115) ⟨rfl, rfl⟩, by decide +kernel, by decide +kernel, Or.inl ⟨by decide +kernel, by decide +kernel, w_in (i := 2029) ⟨rfl, rfl⟩, w_in (i := 2030) ⟨rfl, rfl⟩⟩⟩
set_option maxRecDepth 100000 in
theorem v_c236 : c_ok (100414, 278) := Or.inl ⟨by decide, by decide, by decide, w_in (i := 115) ⟨rfl, rfl⟩, by decide +kernel, by decide +kernel, Or.inr (Or.inl ⟨by decide +kernel, by decide +kernel, w_in (i := 2033) ⟨rfl, rfl⟩, w_in (i := 2035) ⟨rfl, rfl⟩, w_in (i := 101) ⟨rfl, rfl⟩, Or.inl ⟨by decide +kernel, by decide +kernel, rfl⟩⟩)⟩
set_option maxRecDepth 100000 in
theorem v_c237 : c_ok (100417, 276) := Or.inl ⟨by decide, by decide, by decide, w_in (i := 115) ⟨rfl, rfl⟩, by decide +kernel, by decide +kernel, Or.inr (Or.inl ⟨by decide +kernel, by decide +kernel, w_in (i := 2041) ⟨rfl, rfl⟩, w_in (i := 2043) ⟨rfl, rfl⟩, w_in (i := 102) ⟨rfl, rfl⟩, Or.inl ⟨by decide +kernel, by decide +kernel, rfl⟩⟩)⟩
set_option maxRecDepth 100000 in
theorem v_c238 : c_ok (100420, 279) := Or.inl ⟨by decide, by decide, by decide, w_in (i := 115) ⟨rfl, rfl⟩, by decide +kernel, by decide +kernel, Or.inr (Or.inl ⟨by decide +kernel, by decide +kernel, w_in (i := 2045) ⟨rfl, rfl⟩, w_in (i := 2047) ⟨rfl, rfl⟩, w_in (i := 103) ⟨rfl, rfl⟩, Or.inl ⟨by decide +kernel, by decide +kernel, rfl⟩⟩)⟩
set_option maxRecDepth 100000 in
theorem v_c239 : c_ok (110009, 84) := Or.inl ⟨by decide, by decide, by decide, w_in (i := 108) ⟨rfl, rfl⟩, by decide +kernel, by decide +kernel, Or.inr (Or.inl ⟨by decide +kernel, by decide +kernel, w_in (i := 922) ⟨rfl, rfl⟩, w_in (i := 797) ⟨rfl, rfl⟩, w_in (i := 798) ⟨rfl, rfl⟩, Or.inl ⟨by decide +kernel, by decide +kernel, rfl⟩⟩)⟩
set_option maxRecDepth 100000 in
theorem v_c240 : c_ok (110015, 86) := Or.inl ⟨by decide, by decide, by decide, w_in (i := 108) ⟨rfl, rfl⟩, by decide +kernel, by decide +kernel, Or.inr (Or.inl ⟨by decide +kernel, by decide +kernel, w_in (i := 929) ⟨rfl, rfl⟩, w_in (i := 930) ⟨rfl, rfl⟩, w_in (i := 931) ⟨rfl, rfl⟩, Or.inl ⟨by decide +kernel, by decide +kernel, rfl⟩⟩)⟩
set_option maxRecDepth 100000 in
theorem v_c241 : c_ok (110029, 1003) := Or.inr (Or.inr (Or.inr (Or.inr (⟨rfl, w_in (i := 923) ⟨rfl, rfl⟩⟩))))
set_option maxRecDepth 100000 in
theorem v_c242 : c_ok (110037, 296) := Or.inl ⟨by decide, by decide, by decide, w_in (i := 128) ⟨rfl, rfl⟩, by decide +kernel, by decide +kernel, Or.inl ⟨by decide +kernel, by decide +kernel, w_in (i := 919) ⟨rfl, rfl⟩, w_in (i := 920) ⟨rfl, rfl⟩⟩⟩
set_option maxRecDepth 100000 in
theorem v_c243 : c_ok (110043, 295) := Or.inl ⟨by decide, by decide, by decide, w_in (i := 128) ⟨rfl, rfl⟩, by decide +kernel, by decide +kernel, Or.inl ⟨by decide +kernel, by decide +kernel, w_in (i := 926) ⟨rfl, rfl⟩, w_in (i := 927) ⟨rfl, rfl⟩⟩⟩
set_option maxRecDepth 100000 in
theorem v_c244 : c_ok (110046, 1002) := Or.inr (Or.inr (Or.inr (Or.inl ⟨rfl, w_in (i := 951) ⟨rfl, rfl⟩⟩)))
set_option maxRecDepth 100000 in
theorem v_c245 : c_ok (110049, 301) := Or.inl ⟨by decide, by decide, by decide, w_in (i := 128) ⟨rfl, rfl⟩, by decide +kernel, by decide +kernel, Or.inl ⟨by decide +kernel, by decide +kernel, w_in (i := 964) ⟨rfl, rfl⟩, w_in (i := 965) ⟨rfl, rfl⟩⟩⟩
set_option maxRecDepth 100000 in
theorem v_c246 : c_ok (120007, 92) := Or.inl ⟨by decide, by decide, by decide, w_in (i := 105) ⟨rfl, rfl⟩, by decide +kernel, by decide +kernel, Or.inr (Or.inl ⟨by decide +kernel, by decide +kernel, w_in (i := 523) ⟨rfl, rfl⟩, w_in (i := 524) ⟨rfl, rfl⟩, w_in (i := 525) ⟨rfl, rfl⟩, Or.inl ⟨by decide +kernel, by decide +kernel, rfl⟩⟩)⟩
set_option maxRecDepth 100000 in
theorem v_c247 : c_ok (120017, 96) := Or.inl ⟨by decide, by decide, by decide, w_in (i := 105) ⟨rfl, rfl⟩, by decide +kernel, by decide +kernel, Or.inr (Or.inl ⟨by decide +kernel, by decide +kernel, w_in (i := 768) ⟨rfl, rfl⟩, w_in (i := 769) ⟨rfl, rfl⟩, w_in (i := 770) ⟨rfl, rfl⟩, Or.inl ⟨by decide +kernel, by decide +kernel, rfl⟩⟩)⟩
set_option maxRecDepth 100000 in
theorem v_c248 : c_ok (120022, 97) := Or.inl ⟨by decide, by decide, by decide, w_in (i := 105) ⟨rfl, rfl⟩, by decide +kernel, by decide +kernel, Or.inr (Or.inl ⟨by decide +kernel, by decide +kernel, w_in (i := 840) ⟨rfl, rfl⟩, w_in (i := 841) ⟨rfl, rfl⟩, w_in (i := 842) ⟨rfl, rfl⟩, Or.inl ⟨by decide +kernel, by decide +kernel, rfl⟩⟩)⟩
set_option maxRecDepth 100000 in
theorem v_c249 : c_ok (120026, 98) := Or.inl ⟨by decide, by decide, by decide, w_in (i := 105) ⟨rfl, rfl⟩, by decide +kernel, by decide +kernel, Or.inr (Or.inl ⟨by decide +kernel, by decide +kernel, w_in (i := 875) ⟨rfl, rfl⟩, w_in (i := 876) ⟨rfl, rfl⟩, w_in (i := 877) ⟨rfl, rfl⟩, Or.inl ⟨by decide +kernel, by decide +kernel, rfl⟩⟩)⟩
set_option maxRecDepth 100000 in
theorem v_c250 : c_ok (120030, 99) := Or.inl ⟨by decide, by decide, by decide, w_in (i := 105) ⟨rfl, rfl⟩, by decide +kernel, by decide +kernel, Or.inr (Or.inl ⟨by decide +kernel, by decide +kernel, w_in (i := 896) ⟨rfl, rfl⟩, w_in (i := 897) ⟨rfl, rfl⟩, w_in (i := 898) ⟨rfl, rfl⟩, Or.inl ⟨by decide +kernel, by decide +kernel, rfl⟩⟩)⟩
set_option maxRecDepth 100000 in
theorem v_c251 : c_ok (120033, 100) := Or.inl ⟨by decide, by decide, by decide, w_in (i := 105) ⟨rfl, rfl⟩, by decide +kernel, by decide +kernel, Or.inr (Or.inl ⟨by decide +kernel, by decide +kernel, w_in (i := 912) ⟨rfl, rfl⟩, w_in (i := 913) ⟨rfl, rfl⟩, w_in (i := 914) ⟨rfl, rfl⟩, Or.inl ⟨by decide +kernel, by decide +kernel, rfl⟩⟩)⟩
set_option maxRecDepth 100000 in
theorem v_c252 : c_ok (120036, 101) := Or.inl ⟨by decide, by decide, by decide, w_in (i := 105) ⟨rfl, rfl⟩, by decide +kernel, by decide +kernel, Or.inr (Or.inl ⟨by decide +kernel, by decide +kernel, w_in (i := 936) ⟨rfl, rfl⟩, w_in (i := 937) ⟨rfl, rfl⟩, w_in (i := 938) ⟨rfl, rfl⟩, Or.inl ⟨by decide +kernel, by decide +kernel, rfl⟩⟩)⟩
set_option maxRecDepth 100000 in
theorem v_c253 : c_ok (120039, 102) := Or.inl ⟨by decide, by decide, by decide, w_in (i := 105) ⟨rfl, rfl⟩, by decide +kernel, by decide +kernel, Or.inr (Or.inl ⟨by decide +kernel, by decide +kernel, w_in (i := 944) ⟨rfl, rfl⟩, w_in (i := 945) ⟨rfl, rfl⟩, w_in (i := 946) ⟨rfl, rfl⟩, Or.inl ⟨by decide +kernel, by decide +kernel, rfl⟩⟩)⟩
set_option maxRecDepth 100000 in
theorem v_c254 : c_ok (120042, 103) := Or.inl ⟨by decide, by decide, by decide, w_in (i := 105) ⟨rfl, rfl⟩, by decide +kernel, by decide +kernel, Or.inr (Or.inl ⟨by decide +kernel, by decide +kernel, w_in (i := 957) ⟨rfl, rfl⟩, w_in (i := 958) ⟨rfl, rfl⟩, w_in (i := 959) ⟨rfl, rfl⟩, Or.inl ⟨by decide +kernel, by decide +kernel, rfl⟩⟩)⟩
set_option maxRecDepth 100000 in
theorem v_c255 : c_ok (120045, 104) := Or.inl ⟨by decide, by decide, by decide, w_in (i := 105) ⟨rfl, rfl⟩, by decide +kernel, by decide +kernel, Or.inr (Or.inl ⟨by decide +kernel, by decide +kernel, w_in (i := 970) ⟨rfl, rfl⟩, w_in (i := 971) ⟨rfl, rfl⟩, w_in (i := 972) ⟨rfl, rfl⟩, Or.inl ⟨by decide +kernel, by decide +kernel, rfl⟩⟩)⟩
set_option maxRecDepth 100000 in
theorem v_c256 : c_ok (120048, 105) := Or.inl ⟨by decide, by decide, by decide, w_in (i := 105) ⟨rfl, rfl⟩, by decide +kernel, by decide +kernel, Or.inr (Or.inl ⟨by decide +kernel, by decide +kernel, w_in (i := 995) ⟨rfl, rfl⟩, w_in (i := 996) ⟨rfl, rfl⟩, w_in (i := 997) ⟨rfl, rfl⟩, Or.inl ⟨by decide +kernel, by decide +kernel, rfl⟩⟩)⟩
set_option maxRecDepth 100000 in
theorem v_c257 : c_ok (120052, 106) := Or.inl ⟨by decide, by decide, by decide, w_in (i := 105) ⟨rfl, rfl⟩, by decide +kernel, by decide +kernel, Or.inr (Or.inl ⟨by decide +kernel, by decide +kernel, w_in (i := 1006) ⟨rfl, rfl⟩, w_in (i := 1007) ⟨rfl, rfl⟩, w_in (i := 1008) ⟨rfl, rfl⟩, Or.inl ⟨by decide +kernel, by decide +kernel, rfl⟩⟩)⟩
set_option maxRecDepth 100000 in
theorem v_c258 : c_ok (120055, 107) := Or.inl ⟨by decide, by decide, by decide, w_in (i := 105) ⟨rfl, rfl⟩, by decide +kernel, by decide +kernel, Or.inr (Or.inl ⟨by decide +kernel, by decide +kernel, w_in (i := 1035) ⟨rfl, rfl⟩, w_in (i := 1036) ⟨rfl, rfl⟩, w_in (i := 1037) ⟨rfl, rfl⟩, Or.inl ⟨by decide +kernel, by decide +kernel, rfl⟩⟩)⟩
set_option maxRecDepth 100000 in
theorem v_c259 : c_ok (120058, 108) := Or.inl ⟨by decide, by decide, by decide, w_in (i := 105) ⟨rfl, rfl⟩, by decide +kernel, by decide +kernel, Or.inr (Or.inl ⟨by decide +kernel, by decide +kernel, w_in (i := 1042) ⟨rfl, rfl⟩, w_in (i := 1043) ⟨rfl, rfl⟩, w_in (i := 1044) ⟨rfl, rfl⟩, Or.inl ⟨by decide +kernel, by decide +kernel, rfl⟩⟩)⟩
set_option maxRecDepth 100000 in
theorem v_c260 : c_ok (120062, 109) := Or.inl ⟨by decide, by decide, by decide, w_in (i := 105) ⟨rfl, rfl⟩, by decide +kernel, by decide +kernel, Or.inr (Or.inl ⟨by decide +kernel, by decide +kernel, w_in (i := 1050) ⟨rfl, rfl⟩, w_in (i := 1051) ⟨rfl, rfl⟩, w_in (i := 1052) ⟨rfl, rfl⟩, Or.inl ⟨by decide +kernel, by decide +kernel, rfl⟩⟩)⟩
set_option maxRecDepth 100000 in
theorem v_c261 : c_ok (120065, 110) := Or.inl ⟨by decide, by decide, by decide, w_in (i := 105) ⟨rfl, rfl⟩, by decide +kernel, by decide +kernel, Or.inr (Or.inl ⟨by decide +kernel, by decide +kernel, w_in (i := 1058) ⟨rfl, rfl⟩, w_in (i := 1059) ⟨rfl, rfl⟩, w_in (i := 1060) ⟨rfl, rfl⟩, Or.inl ⟨by decide +kernel, by decide +kernel, rfl⟩⟩)⟩
set_option maxRecDepth 100000 in
theorem v_c262 : c_ok (120068, 111) := Or.inl ⟨by decide, by decide, by decide, w_in (i := 105) ⟨rfl, rfl⟩, by decide +kernel, by decide +kernel, Or.inr (Or.inl ⟨by decide +kernel, by decide +kernel, w_in (i := 1066) ⟨rfl, rfl⟩, w_in (i := 1067) ⟨rfl, rfl⟩, w_in (i := 1068) ⟨rfl, rfl⟩, Or.inl ⟨by decide +kernel, by decide +kernel, rfl⟩⟩)⟩
set_option maxRecDepth 100000 in
theorem v_c263 : c_ok (120071, 112) := Or.inl ⟨by decide, by decide, by decide, w_in (i := 105) ⟨rfl, rfl⟩, by decide +kernel, by decide +kernel, Or.inr (Or.inl ⟨by decide +kernel, by decide +kernel, w_in (i := 1080) ⟨rfl, rfl⟩, w_in (i := 1081) ⟨rfl, rfl⟩, w_in (i := 1082) ⟨rfl, rfl⟩, Or.inl ⟨by decide +kernel, by decide +kernel, rfl⟩⟩)⟩
set_option maxRecDepth 100000 in
theorem v_c264 : c_ok (120075, 113) := Or.inl ⟨by decide, by decide, by decide, w_in (i := 105) ⟨rfl, rfl⟩, by decide +kernel, by decide +kernel, Or.inr (Or.inl ⟨by decide +kernel, by decide +kernel, w_in (i := 1087) ⟨rfl, rfl⟩, w_in (i := 1088) ⟨rfl, rfl⟩, w_in (i := 1089) ⟨rfl, rfl⟩, Or.inl ⟨by decide +kernel, by decide +kernel, rfl⟩⟩)⟩
set_option maxRecDepth 100000 in
theorem v_c265 : c_ok (120078, 114) := Or.inl ⟨by decide, by decide, by decide, w_in (i := 105) ⟨rfl, rfl⟩, by decide +kernel, by decide +kernel, Or.inr (Or.inl ⟨by decide +kernel, by decide +kernel, w_in (i := 1098) ⟨rfl, rfl⟩, w_in (i := 1099) ⟨rfl, rfl⟩, w_in (i := 1100) ⟨rfl, rfl⟩, Or.inl ⟨by decide +kernel, by decide +kernel, rfl⟩⟩)⟩
set_option maxRecDepth 100000 in
theorem v_c266 : c_ok (120081, 115) := Or.inl ⟨by decide, by decide, by decide, w_in (i := 105) ⟨rfl, rfl⟩, by decide +kernel, by decide +kernel, Or.inr (Or.inl ⟨by decide +kernel, by decide +kernel, w_in (i := 1163) ⟨rfl, rfl⟩, w_in (i := 1164) ⟨rfl, rfl⟩, w_in (i := 1165) ⟨rfl, rfl⟩, Or.inl ⟨by decide +kernel, by decide +kernel, rfl⟩⟩)⟩
set_option maxRecDepth 100000 in
theorem v_c267 : c_ok (120084, 116) := Or.inl ⟨by decide, by decide, by decide, w_in (i := 105) ⟨rfl, rfl⟩, by decide +kernel, by decide +kernel, Or.inr (Or.inl ⟨by decide +kernel, by decide +kernel, w_in (i := 1174) ⟨rfl, rfl⟩, w_in (i := 1175) ⟨rfl, rfl⟩, w_in (i := 1176) ⟨rfl, rfl⟩, Or.inl ⟨by decide +kernel, by decide +kernel, rfl⟩⟩)⟩
set_option maxRecDepth 100000 in
theorem v_c268 : c_ok (120087, 117) := Or.inl ⟨by decide, by decide, by decide, w_in (i := 105) ⟨rfl, rfl⟩, by decide +kernel, by decide +kernel, Or.inr (Or.inl ⟨by decide +kernel, by decide +kernel, w_in (i := 1182) ⟨rfl, rfl⟩, w_in (i := 1183) ⟨rfl, rfl⟩, w_in (i := 1184) ⟨rfl, rfl⟩, Or.inl ⟨by decide +kernel, by decide +kernel, rfl⟩⟩)⟩
set_option maxRecDepth 100000 in
theorem v_c269 : c_ok (120090, 118) := Or.inl ⟨by decide, by decide, by decide, w_in (i := 105) ⟨rfl, rfl⟩, by decide +kernel, by decide +kernel, Or.inr (Or.inl ⟨by decide +kernel, by decide +kernel, w_in (i := 1189) ⟨rfl, rfl⟩, w_in (i := 1190) ⟨rfl, rfl⟩, w_in (i := 1191) ⟨rfl, rfl⟩, Or.inl ⟨by decide +kernel, by decide +kernel, rfl⟩⟩)⟩
set_option maxRecDepth 100000 in
theorem v_c270 : c_ok (120093, 119) := Or.inl ⟨by decide, by decide, by decide, w_in (i := 105) ⟨rfl, rfl⟩, by decide +kernel, by decide +kernel, Or.inr (Or.inl ⟨by decide +kernel, by decide +kernel, w_in (i := 1196) ⟨rfl, rfl⟩, w_in (i := 1197) ⟨rfl, rfl⟩, w_in (i := 1198) ⟨rfl, rfl⟩, Or.inl ⟨by decide +kernel, by decide +kernel, rfl⟩⟩)⟩
set_option maxRecDepth 100000 in
theorem v_c271 : c_ok (120096, 120) := Or.inl ⟨by decide, by decide, by decide, w_in (i := 105) ⟨rfl, rfl⟩, by decide +kernel, by decide +kernel, Or.inr (Or.inl ⟨by decide +kernel, by decide +kernel, w_in (i := 1203) ⟨rfl, rfl⟩, w_in (i := 1204) ⟨rfl, rfl⟩, w_in (i := 1205) ⟨rfl, rfl⟩, Or.inl ⟨by decide +kernel, by decide +kernel, rfl⟩⟩)⟩
set_option maxRecDepth 100000 in
theorem v_c272 : c_ok (120099, 121) := Or.inl ⟨by decide, by decide, by decide, w_in (i := 105) ⟨rfl, rfl⟩, by decide +kernel, by decide +kernel, Or.inr (Or.inl ⟨by decide +kernel, by decide +kernel, w_in (i := 1210) ⟨rfl, rfl⟩, w_in (i := 1211) ⟨rfl, rfl⟩, w_in (i := 1212) ⟨rfl, rfl⟩, Or.inl ⟨by decide +kernel, by decide +kernel, rfl⟩⟩)⟩
set_option maxRecDepth 100000 in
theorem v_c273 : c_ok (120102, 122) := Or.inl ⟨by decide, by decide, by decide, w_in (i := 105) ⟨rfl, rfl⟩, by decide +kernel, by decide +kernel, Or.inr (Or.inl ⟨by decide +kernel, by decide +kernel, w_in (i := 1217) ⟨rfl, rfl⟩, w_in (i := 1218) ⟨rfl, rfl⟩, w_in (i := 1219) ⟨rfl, rfl⟩, Or.inl ⟨by decide +kernel, by decide +kernel, rfl⟩⟩)⟩
set_option maxRecDepth 100000 in
theorem v_c274 : c_ok (120105, 123) := Or.inl ⟨by decide, by decide, by decide, w_in (i := 105) ⟨rfl, rfl⟩, by decide +kernel, by decide +kernel, Or.inr (Or.inl ⟨by decide +kernel, by decide +kernel, w_in (i := 1224) ⟨rfl, rfl⟩, w_in (i := 1225) ⟨rfl, rfl⟩, w_in (i := 1226) ⟨rfl, rfl⟩, Or.inl ⟨by decide +kernel, by decide +kernel, rfl⟩⟩)⟩
set_option maxRecDepth 100000 in
theorem v_c275 : c_ok (120108, 124) := Or.inl ⟨by decide, by decide, by decide, w_in (i := 105) ⟨rfl, rfl⟩, by decide +kernel, by decide +kernel, Or.inr (Or.inl ⟨by decide +kernel, by decide +kernel, w_in (i := 1231) ⟨rfl, rfl⟩, w_in (i := 1232) ⟨rfl, rfl⟩, w_in (i := 1233) ⟨rfl, rfl⟩, Or.inl ⟨by decide +kernel, by decide +kernel, rfl⟩⟩)⟩
set_option maxRecDepth 100000 in
theorem v_c276 : c_ok (120111, 125) := Or.inl ⟨by decide, by decide, by decide, w_in (i := 105) ⟨rfl, rfl⟩, by decide +kernel, by decide +kernel, Or.inr (Or.inl ⟨by decide +kernel, by decide +kernel, w_in (i := 1238) ⟨rfl, rfl⟩, w_in (i := 1239) ⟨rfl, rfl⟩, w_in (i := 1240) ⟨rfl, rfl⟩, Or.inl ⟨by decide +kernel, by decide +kernel, rfl⟩⟩)⟩
set_option maxRecDepth 100000 in
theorem v_c277 : c_ok (120115, 126) := Or.inl ⟨by decide, by decide, by decide, w_in (i := 105) ⟨rfl, rfl⟩, by decide +kernel, by decide +kernel, Or.inr (Or.inl ⟨by decide +kernel, by decide +kernel, w_in (i := 1251) ⟨rfl, rfl⟩, w_in (i := 1252) ⟨rfl, rfl⟩, w_in (i := 1253) ⟨rfl, rfl⟩, Or.inl ⟨by decide +kernel, by decide +kernel, rfl⟩⟩)⟩
set_option maxRecDepth 100000 in
theorem v_c278 : c_ok (120119, 127) := Or.inl ⟨by decide, by decide, by decide, w_in (i := 105) ⟨rfl, rfl⟩, by decide +kernel, by decide +kernel, Or.inr (Or.inl ⟨by decide +kernel, by decide +kernel, w_in (i := 1258) ⟨rfl, rfl⟩, w_in (i := 1259) ⟨rfl, rfl⟩, w_in (i := 1260) ⟨rfl, rfl⟩, Or.inl ⟨by decide +kernel, by decide +kernel, rfl⟩⟩)⟩
set_option maxRecDepth 100000 in
theorem v_c279 : c_ok (120122, 128) := Or.inl ⟨by decide, by decide, by decide, w_in (i := 105) ⟨rfl, rfl⟩, by decide +kernel, by decide +kernel, Or.inr (Or.inl ⟨by decide +kernel, by decide +kernel, w_in (i := 1278) ⟨rfl, rfl⟩, w_in (i := 1279) ⟨rfl, rfl⟩, w_in (i := 1280) ⟨rfl, rfl⟩, Or.inl ⟨by decide +kernel, by decide +kernel, rfl⟩⟩)⟩
set_option maxRecDepth 100000 in
theorem v_c280 : c_ok (120125, 129) := Or.inl ⟨by decide, by decide, by decide, w_in (i := 105) ⟨rfl, rfl⟩, by decide +kernel, by decide +kernel, Or.inr (Or.inl ⟨by decide +kernel, by decide +kernel, w_in (i := 1290) ⟨rfl, rfl⟩, w_in (i := 1291) ⟨rfl, rfl⟩, w_in (i := 1292) ⟨rfl, rfl⟩, Or.inl ⟨by decide +kernel, by decide +kernel, rfl⟩⟩)⟩
set_option maxRecDepth 100000 in
theorem v_c281 : c_ok (120128, 130) := Or.inl ⟨by decide, by decide, by decide, w_in (i := 105) ⟨rfl, rfl⟩, by decide +kernel, by decide +kernel, Or.inr (Or.inl ⟨by decide +kernel, by decide +kernel, w_in (i := 1298) ⟨rfl, rfl⟩, w_in (i := 1299) ⟨rfl, rfl⟩, w_in (i := 1300) ⟨rfl, rfl⟩, Or.inl ⟨by decide +kernel, by decide +kernel, rfl⟩⟩)⟩
set_option maxRecDepth 100000 in
theorem v_c282 : c_ok (120132, 131) := Or.inl ⟨by decide, by decide, by decide, w_in (i := 105) ⟨rfl, rfl⟩, by decide +kernel, by decide +kernel, Or.inr (Or.inl ⟨by decide +kernel, by decide +kernel, w_in (i := 1335) ⟨rfl, rfl⟩, w_in (i := 1336) ⟨rfl, rfl⟩, w_in (i := 1337) ⟨rfl, rfl⟩, Or.inl ⟨by decide +kernel, by decide +kernel, rfl⟩⟩)⟩
set_option maxRecDepth 100000 in
theorem v_c283 : c_ok (120135, 132) := Or.inl ⟨by decide, by decide, by decide, w_in (i := 105) ⟨rfl, rfl⟩, by decide +kernel, by decide +kernel, Or.inr (Or.inl ⟨by decide +kernel, by decide +kernel, w_in (i := 1343) ⟨rfl, rfl⟩, w_in (i := 1344) ⟨rfl, rfl⟩, w_in (i := 1345) ⟨rfl, rfl⟩, Or.inl ⟨by decide +kernel, by decide +kernel, rfl⟩⟩)⟩
set_option maxRecDepth 100000 in
theorem v_c284 : c_ok (120138, 133) := Or.inl ⟨by decide, by decide, by decide, w_in (i := 105) ⟨rfl, rfl⟩, by decide +kernel, by decide +kernel, Or.inr (Or.inl ⟨by decide +kernel, by decide +kernel, w_in (i := 1351) ⟨rfl, rfl⟩, w_in (i := 1352) ⟨rfl, rfl⟩, w_in (i := 1353) ⟨rfl, rfl⟩, Or.inl ⟨by decide +kernel, by decide +kernel, rfl⟩⟩)⟩
set_option maxRecDepth 100000 in
theorem v_c285 : c_ok (120141, 134) := Or.inl ⟨by decide, by decide, by decide, w_in (i := 105) ⟨rfl, rfl⟩, by decide +kernel, by decide +kernel, Or.inr (Or.inl ⟨by decide +kernel, by decide +kernel, w_in (i := 1359) ⟨rfl, rfl⟩, w_in (i := 1360) ⟨rfl, rfl⟩, w_in (i := 1361) ⟨rfl, rfl⟩, Or.inl ⟨by decide +kernel, by decide +kernel, rfl⟩⟩)⟩
set_option maxRecDepth 100000 in
theorem v_c286 : c_ok (120144, 135) := Or.inl ⟨by decide, by decide, by decide, w_in (i := 105) ⟨rfl, rfl⟩, by decide +kernel, by decide +kernel, Or.inr (Or.inl ⟨by decide +kernel, by decide +kernel, w_in (i := 1366) ⟨rfl, rfl⟩, w_in (i := 1367) ⟨rfl, rfl⟩, w_in (i := 1368) ⟨rfl, rfl⟩, Or.inl ⟨by decide +kernel, by decide +kernel, rfl⟩⟩)⟩
set_option maxRecDepth 100000 in
theorem v_c287 : c_ok (120147, 136) := Or.inl ⟨by decide, by decide, by decide, w_in (i := 105) ⟨rfl, rfl⟩, by decide +kernel, by decide +kernel, Or.inr (Or.inl ⟨by decide +kernel, by decide +kernel, w_in (i := 1375) ⟨rfl, rfl⟩, w_in (i := 1376) ⟨rfl, rfl⟩, w_in (i := 1377) ⟨rfl, rfl⟩, Or.inl ⟨by decide +kernel, by decide +kernel, rfl⟩⟩)⟩
set_option maxRecDepth 100000 in
theorem v_c288 : c_ok (120150, 137) := Or.inl ⟨by decide, by decide, by decide, w_in (i := 105) ⟨rfl, rfl⟩, by decide +kernel, by decide +kernel, Or.inr (Or.inl ⟨by decide +kernel, by decide +kernel, w_in (i := 1387) ⟨rfl, rfl⟩, w_in (i := 1388) ⟨rfl, rfl⟩, w_in (i := 1389) ⟨rfl, rfl⟩, Or.inl ⟨by decide +kernel, by decide +kernel, rfl⟩⟩)⟩
set_option maxRecDepth 100000 in
theorem v_c289 : c_ok (120153, 138) := Or.inl ⟨by decide, by decide, by decide, w_in (i := 105) ⟨rfl, rfl⟩, by decide +kernel, by decide +kernel, Or.inr (Or.inl ⟨by decide +kernel, by decide +kernel, w_in (i := 1394) ⟨rfl, rfl⟩, w_in (i := 1395) ⟨rfl, rfl⟩, w_in (i := 1396) ⟨rfl, rfl⟩, Or.inl ⟨by decide +kernel, by decide +kernel, rfl⟩⟩)⟩
set_option maxRecDepth 100000 in
theorem v_c290 : c_ok (120156, 139) := Or.inl ⟨by decide, by decide, by decide, w_in (i := 105) ⟨rfl, rfl⟩, by decide +kernel, by decide +kernel, Or.inr (Or.inl ⟨by decide +kernel, by decide +kernel, w_in (i := 1401) ⟨rfl, rfl⟩, w_in (i := 1402) ⟨rfl, rfl⟩, w_in (i := 1403) ⟨rfl, rfl⟩, Or.inl ⟨by decide +kernel, by decide +kernel, rfl⟩⟩)⟩
set_option maxRecDepth 100000 in
theorem v_c291 : c_ok (120159, 140) := Or.inl ⟨by decide, by decide, by decide, w_in (i := 105) ⟨rfl, rfl⟩, by decide +kernel, by decide +kernel, Or.inr (Or.inl ⟨by decide +kernel, by decide +kernel, w_in (i := 1412) ⟨rfl, rfl⟩, w_in (i := 1413) ⟨rfl, rfl⟩, w_in (i := 1414) ⟨rfl, rfl⟩, Or.inl ⟨by decide +kernel, by decide +kernel, rfl⟩⟩)⟩
set_option maxRecDepth 100000 in
theorem v_c292 : c_ok (120162, 142) := Or.inl ⟨by decide, by decide, by decide, w_in (i := 105) ⟨rfl, rfl⟩, by decide +kernel, by decide +kernel, Or.inr (Or.inl ⟨by decide +kernel, by decide +kernel, w_in (i := 1424) ⟨rfl, rfl⟩, w_in (i := 1425) ⟨rfl, rfl⟩, w_in (i := 1426) ⟨rfl, rfl⟩, Or.inl ⟨by decide +kernel, by decide +kernel, rfl⟩⟩)⟩
set_option maxRecDepth 100000 in
theorem v_c293 : c_ok (120165, 143) := Or.inl ⟨by decide, by decide, by decide, w_in (i := 105) ⟨rfl, rfl⟩, by decide +kernel, by decide +kernel, Or.inr (Or.inl ⟨by decide +kernel, by decide +kernel, w_in (i := 1436) ⟨rfl, rfl⟩, w_in (i := 1437) ⟨rfl, rfl⟩, w_in (i := 1438) ⟨rfl, rfl⟩, Or.inl ⟨by decide +kernel, by decide +kernel, rfl⟩⟩)⟩
set_option maxRecDepth 100000 in
theorem v_c294 : c_ok (120168, 90) := Or.inl ⟨by decide, by decide, by decide, w_in (i := 105) ⟨rfl, rfl⟩, by decide +kernel, by decide +kernel, Or.inr (Or.inr ⟨by decide +kernel, rfl, rfl, by decide +kernel, w_in (i := 133) ⟨rfl, rfl⟩, Or.inl (w_in (i := 132) ⟨rfl, rfl⟩)⟩)⟩
set_option maxRecDepth 100000 in
theorem v_c295 : c_ok (120171, 153) := Or.inl ⟨by decide, by decide, by decide, w_in (i := 115) ⟨rfl, rfl⟩, by decide +kernel, by decide +kernel, Or.inr (Or.inr ⟨by decide +kernel, rfl, rfl, by decide +kernel, w_in (i := 1444) ⟨rfl, rfl⟩, Or.inl (w_in (i := 1443) ⟨rfl, rfl⟩)⟩)⟩
set_option maxRecDepth 100000 in
theorem v_c296 : c_ok (120172, 91) := Or.inl ⟨by decide, by decide, by decide, w_in (i := 105) ⟨rfl, rfl⟩, by decide +kernel, by decide +kernel, Or.inr (Or.inl ⟨by decide +kernel, by decide +kernel, w_in (i := 490) ⟨rfl, rfl⟩, w_in (i := 491) ⟨rfl, rfl⟩, w_in (i := 492) ⟨rfl, rfl⟩, Or.inl ⟨by decide +kernel, by decide +kernel, rfl⟩⟩)⟩
set_option maxRecDepth 100000 in
theorem v_c297 : c_ok (120176, 175) := Or.inl ⟨by decide, by decide, by decide, w_in (i := 115) ⟨rfl, rfl⟩, by decide +kernel, by decide +kernel, Or.inr (Or.inl ⟨by decide +kernel, by decide +kernel, w_in (i := 1528) ⟨rfl, rfl⟩, w_in (i := 1529) ⟨rfl, rfl⟩, w_in (i := 1530) ⟨rfl, rfl⟩, Or.inl ⟨by decide +kernel, by decide +kernel, rfl⟩⟩)⟩
set_option maxRecDepth 100000 in
theorem v_c298 : c_ok (120177, 302) := Or.inl ⟨by decide, by decide, by decide, w_in (i := 104) ⟨rfl, rfl⟩, by decide +kernel, by decide +kernel, Or.inl ⟨by decide +kernel, by decide +kernel, w_in (i := 518) ⟨rfl, rfl⟩, w_in (i := 519) ⟨rfl, rfl⟩⟩⟩
set_option maxRecDepth 100000 in
theorem v_c299 : c_ok (120182, 191) := Or.inl ⟨by decide, by decide, by decide, w_in (i := 115) ⟨rfl, rfl⟩, by decide +kernel, by decide +kernel, Or.inr (Or.inl ⟨by decide +kernel, by decide +kernel, w_in (i := 1544) ⟨rfl, rfl⟩, w_in (i := 1545) ⟨rfl, rfl⟩, w_in (i := 1546) ⟨rfl, rfl⟩, Or.inl ⟨by decide +kernel, by decide +kernel, rfl⟩⟩)⟩
set_option maxRecDepth 100000 in
theorem v_c300 : c_ok (120183, 154) := Or.inl ⟨by decide, by decide, by decide, w_in (i := 115) ⟨rfl, rfl⟩, by decide +kernel, by decide +kernel, Or.inr (Or.inl ⟨by decide +kernel, by decide +kernel, w_in (i := 1524) ⟨rfl, rfl⟩, w_in (i := 1525) ⟨rfl, rfl⟩, w_in (i := 1526) ⟨rfl, rfl⟩, Or.inl ⟨by decide +kernel, by decide +kernel, rfl⟩⟩)⟩
set_option maxRecDepth 100000 in
theorem v_c301 : c_ok (120186, 93) := Or.inl ⟨by decide, by decide, by decide, w_in (i := 105) ⟨rfl, rfl⟩, by decide +kernel, by decide +kernel, Or.inr (Or.inl ⟨by decide +kernel, by decide +kernel, w_in (i := 502) ⟨rfl, rfl⟩, w_in (i := 503) ⟨rfl, rfl⟩, w_in (i := 504) ⟨rfl, rfl⟩, Or.inl ⟨by decide +kernel, by decide +kernel, rfl⟩⟩)⟩
set_option maxRecDepth 100000 in
theorem v_c302 : c_ok (120189, 177) := Or.inl ⟨by decide, by decide, by decide, w_in (i := 115) ⟨rfl, rfl⟩, by decide +kernel, by decide +kernel, Or.inr (Or.inl ⟨by decide +kernel, by decide +kernel, w_in (i := 1536) ⟨rfl, rfl⟩, w_in (i := 1537) ⟨rfl, rfl⟩, w_in (i := 1538) ⟨rfl, rfl⟩, Or.inl ⟨by decide +kernel, by decide +kernel, rfl⟩⟩)⟩
set_option maxRecDepth 100000 in
theorem v_c303 : c_ok (120190, 94) := Or.inl ⟨by decide, by decide, by decide, w_in (i := 105) ⟨rfl, rfl⟩, by decide +kernel, by decide +kernel, Or.inr (Or.inl ⟨by decide +kernel, by decide +kernel, w_in (i := 506) ⟨rfl, rfl⟩, w_in (i := 507) ⟨rfl, rfl⟩, w_in (i := 508) ⟨rfl, rfl⟩, Or.inl ⟨by decide +kernel, by decide +kernel, rfl⟩⟩)⟩
set_option maxRecDepth 100000 in
theorem v_c304 : c_ok (120193, 178) := Or.inl ⟨by decide, by decide, by decide, w_in (i := 115) ⟨rfl, rfl⟩, by decide +kernel, by decide +kernel, Or.inr (Or.inl ⟨by decide +kernel, by decide +kernel, w_in (i := 1540) ⟨rfl, rfl⟩, w_in (i := 1541) ⟨rfl, rfl⟩, w_in (i := 1542) ⟨rfl, rfl⟩, Or.inl ⟨by decide +kernel, by decide +kernel, rfl⟩⟩)⟩
set_option maxRecDepth 100000 in
theorem v_c305 : c_ok (120194, 95) := Or.inl ⟨by decide, by decide, by decide, w_in (i := 105) ⟨rfl, rfl⟩, by decide +kernel, by decide +kernel, Or.inr (Or.inl ⟨by decide +kernel, by decide +kernel, w_in (i := 510) ⟨rfl, rfl⟩, w_in (i := 511) ⟨rfl, rfl⟩, w_in (i := 512) ⟨rfl, rfl⟩, Or.inl ⟨by decide +kernel, by decide +kernel, rfl⟩⟩)⟩
set_option maxRecDepth 100000 in
theorem v_c306 : c_ok (120197, 176) := Or.inl ⟨by decide, by decide, by decide, w_in (i := 115) ⟨rfl, rfl⟩, by decide +kernel, by decide +kernel, Or.inr (Or.inl ⟨by decide +kernel, by decide +kernel, w_in (i := 1532) ⟨rfl, rfl⟩, w_in (i := 1533) ⟨rfl, rfl⟩, w_in (i := 1534) ⟨rfl, rfl⟩, Or.inl ⟨by decide +kernel, by decide +kernel, rfl⟩⟩)⟩
set_option maxRecDepth 100000 in
theorem v_c307 : c_ok (120198, 303) := Or.inl ⟨by decide, by decide, by decide, w_in (i := 104) ⟨rfl, rfl⟩, by decide +kernel, by decide +kernel, Or.inl ⟨by decide +kernel, by decide +kernel, w_in (i := 764) ⟨rfl, rfl⟩, w_in (i := 765) ⟨rfl, rfl⟩⟩⟩
set_option maxRecDepth 100000 in
theorem v_c308 : c_ok (120200, 215) := Or.inl ⟨by decide, by decide, by decide, w_in (i := 115) ⟨rfl, rfl⟩, by decide +kernel, by decide +kernel, Or.inr (Or.inl ⟨by decide +kernel, by decide +kernel, w_in (i := 1621) ⟨rfl, rfl⟩, w_in (i := 1622) ⟨rfl, rfl⟩, w_in (i := 1623) ⟨rfl, rfl⟩, Or.inl ⟨by decide +kernel, by decide +kernel, rfl⟩⟩)⟩
set_option maxRecDepth 100000 in
theorem v_c309 : c_ok (120201, 304) := Or.inl ⟨by decide, by decide, by decide, w_in (i := 104) ⟨rfl, rfl⟩, by decide +kernel, by decide +kernel, Or.inl ⟨by decide +kernel, by decide +kernel, w_in (i := 837) ⟨rfl, rfl⟩, w_in (i := 838) ⟨rfl, rfl⟩⟩⟩
set_option maxRecDepth 100000 in
theorem v_c310 : c_ok (120204, 216) := Or.inl ⟨by decide, by decide, by decide, w_in (i := 115) ⟨rfl, rfl⟩, by decide +kernel, by decide +kernel, Or.inr (Or.inl ⟨by decide +kernel, by decide +kernel, w_in (i := 1669) ⟨rfl, rfl⟩, w_in (i := 1670) ⟨rfl, rfl⟩, w_in (i := 1671) ⟨rfl, rfl⟩, Or.inl ⟨by decide +kernel, by decide +kernel, rfl⟩⟩)⟩
set_option maxRecDepth 100000 in
theorem v_c311 : c_ok (120205, 305) := Or.inl ⟨by decide, by decide, by decide, w_in (i := 104) ⟨rfl, rfl⟩, by decide +kernel, by decide +kernel, Or.inl ⟨by decide +kernel, by decide +kernel, w_in (i := 872) ⟨rfl, rfl⟩, w_in (i := 873) ⟨rfl, rfl⟩⟩⟩
set_option maxRecDepth 100000 in
theorem v_c312 : c_ok (120208, 217) := Or.inl ⟨by decide, by decide, by decide, w_in (i := 115) ⟨rfl, rfl⟩, by decide +kernel, by decide +kernel, Or.inr (Or.inl ⟨by decide +kernel, by decide +kernel, w_in (i := 1682) ⟨rfl, rfl⟩, w_in (i := 1683) ⟨rfl, rfl⟩, w_in (i := 1684) ⟨rfl, rfl⟩, Or.inl ⟨by decide +kernel, by decide +kernel, rfl⟩⟩)⟩
set_option maxRecDepth 100000 in
theorem v_c313 : c_ok (120209, 306) := Or.inl ⟨by decide, by decide, by decide, w_in (i := 104) ⟨rfl, rfl⟩, by decide +kernel, by decide +kernel, Or.inl ⟨by decide +kernel, by decide +kernel, w_in (i := 893) ⟨rfl, rfl⟩, w_in (i := 894) ⟨rfl, rfl⟩⟩⟩
set_option maxRecDepth 100000 in
theorem v_c314 : c_ok (120211, 220) := Or.inl ⟨by decide, by decide, by decide, w_in (i := 115) ⟨rfl, rfl⟩, by decide +kernel, by decide +kernel, Or.inr (Or.inl ⟨by decide +kernel, by decide +kernel, w_in (i := 1714) ⟨rfl, rfl⟩, w_in (i := 1715) ⟨rfl, rfl⟩, w_in (i := 1716) ⟨rfl, rfl⟩, Or.inl ⟨by decide +kernel, by decide +kernel, rfl⟩⟩)⟩
set_option maxRecDepth 100000 in
theorem v_c315 : c_ok (120212, 307) := Or.inl ⟨by decide, by decide, by decide, w_in (i := 104) ⟨rfl, rfl⟩, by decide +kernel, by decide +kernel, Or.inl ⟨by decide +kernel, by decide +kernel, w_in (i := 909) ⟨rfl, rfl⟩, w_in (i := 910) ⟨rfl, rfl⟩⟩⟩
set_option maxRecDepth 100000 in
theorem v_c316 : c_ok (120214, 223) := Or.inl ⟨by decide, by decide, by decide, w_in (i := 115) ⟨rfl, rfl⟩, by decide +kernel, by decide +kernel, Or.inr (Or.inl ⟨by decide +kernel, by decide +kernel, w_in (i := 1734) ⟨rfl, rfl⟩, w_in (i := 1735) ⟨rfl, rfl⟩, w_in (i := 1736) ⟨rfl, rfl⟩, Or.inl ⟨by decide +kernel, by decide +kernel, rfl⟩⟩)⟩
set_option maxRecDepth 100000 in
theorem v_c317 : c_ok (120215, 308) := Or.inl ⟨by decide, by decide, by decide, w_in (i := 104) ⟨rfl, rfl⟩, by decide +kernel, by decide +kernel, Or.inl ⟨by decide +kernel, by decide +kernel, w_in (i := 933) ⟨rfl, rfl⟩, w_in (i := 934) ⟨rfl, rfl⟩⟩⟩
set_option maxRecDepth 100000 in
theorem v_c318 : c_ok (120217, 225) := Or.inl ⟨by decide, by decide, by decide, w_in (i := 115) ⟨rfl, rfl⟩, by decide +kernel, by decide +kernel, Or.inr (Or.inl ⟨by decide +kernel, by decide +kernel, w_in (i := 1747) ⟨rfl, rfl⟩, w_in (i := 1748) ⟨rfl, rfl⟩, w_in (i := 1749) ⟨rfl, rfl⟩, Or.inl ⟨by decide +kernel, by decide +kernel, rfl⟩⟩)⟩
set_option maxRecDepth 100000 in
theorem v_c319 : c_ok (120218, 309) := Or.inl ⟨by decide, by decide, by decide, w_in (i := 104) ⟨rfl, rfl⟩, by decide +kernel, by decide +kernel, Or.inl ⟨by decide +kernel, by decide +kernel, w_in (i := 941) ⟨rfl, rfl⟩, w_in (i := 942) ⟨rfl, rfl⟩⟩⟩
set_option maxRecDepth 100000 in
theorem v_c320 : c_ok (120220, 226) := Or.inl ⟨by decide, by decide, by decide, w_in (i := 115) ⟨rfl, rfl⟩, by decide +kernel, by decide +kernel, Or.inr (Or.inl ⟨by decide +kernel, by decide +kernel, w_in (i := 1760) ⟨rfl, rfl⟩, w_in (i := 1761) ⟨rfl, rfl⟩, w_in (i := 1762) ⟨rfl, rfl⟩, Or.inl ⟨by decide +kernel, by decide +kernel, rfl⟩⟩)⟩
set_option maxRecDepth 100000 in
theorem v_c321 : c_ok (120221, 310) := Or.inl ⟨by decide, by decide, by decide, w_in (i := 104) ⟨rfl, rfl⟩, by decide +kernel, by decide +kernel, Or.inl ⟨by decide +kernel, by decide +kernel, w_in (i := 954) ⟨rfl, rfl⟩, w_in (i := 955) ⟨rfl, rfl⟩⟩⟩
set_option maxRecDepth 100000 in
theorem v_c322 : c_ok (120223, 228) := Or.inl ⟨by decide, by decide, by decide, w_in (i := 115) ⟨rfl, rfl⟩, by decide +kernel, by decide +kernel, Or.inr (Or.inl ⟨by decide +kernel, by decide +kernel, w_in (i := 1764) ⟨rfl, rfl⟩, w_in (i := 1765) ⟨rfl, rfl⟩, w_in (i := 1766) ⟨rfl, rfl⟩, Or.inl ⟨by decide +kernel, by decide +kernel, rfl⟩⟩)⟩
set_option maxRecDepth 100000 in
theorem v_c323 : c_ok (120224, 311) := Or.inl ⟨by decide, by decide, by decide, w_in (i := 104) ⟨rfl, rfl⟩, by decide +kernel, by decide +kernel, Or.inl ⟨by decide +kernel, by decide +kernel, w_in (i := 967) ⟨rfl, rfl⟩, w_in (i := 968) ⟨rfl, rfl⟩⟩⟩
set_option maxRecDepth 100000 in
theorem v_c324 : c_ok (120226, 234) := Or.inl ⟨by decide, by decide, by decide, w_in (i := 115) ⟨rfl, rfl⟩, by decide +kernel, by decide +kernel, Or.inr (Or.inl ⟨by decide +kernel, by decide +kernel, w_in (i := 1772) ⟨rfl, rfl⟩, w_in (i := 1773) ⟨rfl, rfl⟩, w_in (i := 1774) ⟨rfl, rfl⟩, Or.inl ⟨by decide +kernel, by decide +kernel, rfl⟩⟩)⟩
set_option maxRecDepth 100000 in
theorem v_c325 : c_ok (120227, 312) := Or.inl ⟨by decide, by decide, by decide, w_in (i := 104) ⟨rfl, rfl⟩, by decide +kernel, by decide +kernel, Or.inl ⟨by decide +kernel, by decide +kernel, w_in (i := 992) ⟨rfl, rfl⟩, w_in (i := 993) ⟨rfl, rfl⟩⟩⟩
set_option maxRecDepth 100000 in
theorem v_c326 : c_ok (120230, 235) := Or.inl ⟨by decide, by decide, by decide, w_in (i := 115) ⟨rfl, rfl⟩, by decide +kernel, by decide +kernel, Or.inr (Or.inl ⟨by decide +kernel, by decide +kernel, w_in (i := 1797) ⟨rfl, rfl⟩, w_in (i := 1798) ⟨rfl, rfl⟩, w_in (i := 1799) ⟨rfl, rfl⟩, Or.inl ⟨by decide +kernel, by decide +kernel, rfl⟩⟩)⟩
set_option maxRecDepth 100000 in
theorem v_c327 : c_ok (120231, 313) := Or.inl ⟨by decide, by decide, by decide, w_in (i := 104) ⟨rfl, rfl⟩, by decide +kernel, by decide +kernel, Or.inl ⟨by decide +kernel, by decide +kernel, w_in (i := 1003) ⟨rfl, rfl⟩, w_in (i := 1004) ⟨rfl, rfl⟩⟩⟩
set_option maxRecDepth 100000 in
theorem v_c328 : c_ok (120233, 239) := Or.inl ⟨by decide, by decide, by decide, w_in (i := 115) ⟨rfl, rfl⟩, by decide +kernel, by decide +kernel, Or.inr (Or.inl ⟨by decide +kernel, by decide +kernel, w_in (i := 1802) ⟨rfl, rfl⟩, w_in (i := 1803) ⟨rfl, rfl⟩, w_in (i := 1804) ⟨rfl, rfl⟩, Or.inl ⟨by decide +kernel, by decide +kernel, rfl⟩⟩)⟩
set_option maxRecDepth 100000 in
theorem v_c329 : c_ok (120234, 314) := Or.inl ⟨by decide, by decide, by decide, w_in (i := 104) ⟨rfl, rfl⟩, by decide +kernel, by decide +kernel, Or.inl ⟨by decide +kernel, by decide +kernel, w_in (i := 1032) ⟨rfl, rfl⟩, w_in (i := 1033) ⟨rfl, rfl⟩⟩⟩
set_option maxRecDepth 100000 in
theorem v_c330 : c_ok (120236, 240) := Or.inl ⟨by decide, by decide, by decide, w_in (i := 115) ⟨rfl, rfl⟩, by decide +kernel, by decide +kernel, Or.inr (Or.inl ⟨by decide +kernel, by decide +kernel, w_in (i := 1826) ⟨rfl, rfl⟩, w_in (i := 1827) ⟨rfl, rfl⟩, w_in (i := 1828) ⟨rfl, rfl⟩, Or.inl ⟨by decide +kernel, by decide +kernel, rfl⟩⟩)⟩
set_option maxRecDepth 100000 in
theorem v_c331 : c_ok (120237, 315) := Or.inl ⟨by decide, by decide, by decide, w_in (i := 104) ⟨rfl, rfl⟩, by decide +kernel, by decide +kernel, Or.inl ⟨by decide +kernel, by decide +kernel, w_in (i := 1039) ⟨rfl, rfl⟩, w_in (i := 1040) ⟨rfl, rfl⟩⟩⟩
set_option maxRecDepth 100000 in
theorem v_c332 : c_ok (120239, 241) := Or.inl ⟨by decide, by decide, by decide, w_in (i := 115) ⟨rfl, rfl⟩, by decide +kernel, by decide +kernel, Or.inr (Or.inl ⟨by decide +kernel, by decide +kernel, w_in (i := 1830) ⟨rfl, rfl⟩, w_in (i := 1831) ⟨rfl, rfl⟩, w_in (i := 1832) ⟨rfl, rfl⟩, Or.inl ⟨by decide +kernel, by decide +kernel, rfl⟩⟩)⟩
set_option maxRecDepth 100000 in
theorem v_c333 : c_ok (120240, 316) := Or.inl ⟨by decide, by decide, by decide, w_in (i := 104) ⟨rfl, rfl⟩, by decide +kernel, by decide +kernel, Or.inl ⟨by decide +kernel, by decide +kernel, w_in (i := 1047) ⟨rfl, rfl⟩, w_in (i := 1048) ⟨rfl, rfl⟩⟩⟩
set_option maxRecDepth 100000 in
theorem v_c334 : c_ok (120242, 242) := Or.inl ⟨by decide, by decide, by decide, w_in (i := 115) ⟨rfl, rfl⟩, by decide +kernel, by decide +kernel, Or.inr (Or.inl ⟨by decide +kernel, by decide +kernel, w_in (i := 1834) ⟨rfl, rfl⟩, w_in (i := 1835) ⟨rfl, rfl⟩, w_in (i := 1836) ⟨rfl, rfl⟩, Or.inl ⟨by decide +kernel, by decide +kernel, rfl⟩⟩)⟩
set_option maxRecDepth 100000 in
theorem v_c335 : c_ok (120243, 317) := Or.inl ⟨by decide, by decide, by decide, w_in (i := 104) ⟨rfl, rfl⟩, by decide +kernel, by decide +kernel, Or.inl ⟨by decide +kernel, by decide +kernel, w_in (i := 1055) ⟨rfl, rfl⟩, w_in (i := 1056) ⟨rfl, rfl⟩⟩⟩
set_option maxRecDepth 100000 in
theorem v_c336 : c_ok (120245, 243) := Or.inl ⟨by decide, by decide, by decide, w_in (i := 115) ⟨rfl, rfl⟩, by decide +kernel, by decide +kernel, Or.inr (Or.inl ⟨by decide +kernel, by decide +kernel, w_in (i := 1838) ⟨rfl, rfl⟩, w_in (i := 1839) ⟨rfl, rfl⟩, w_in (i := 1840) ⟨rfl, rfl⟩, Or.inl ⟨by decide +kernel, by decide +kernel, rfl⟩⟩)⟩
set_option maxRecDepth 100000 in
theorem v_c337 : c_ok (120246, 318) := Or.inl ⟨by decide, by decide, by decide, w_in (i := 104) ⟨rfl, rfl⟩, by decide +kernel, by decide +kernel, Or.inl ⟨by decide +kernel, by decide +kernel, w_in (i := 1063) ⟨rfl, rfl⟩, w_in (i := 1064) ⟨rfl, rfl⟩⟩⟩
set_option maxRecDepth 100000 in
theorem v_c338 : c_ok (120248, 245) := Or.inl ⟨by decide, by decide, by decide, w_in (i := 115) ⟨rfl, rfl⟩, by decide +kernel, by decide +kernel, Or.inr (Or.inl ⟨by decide +kernel, by decide +kernel, w_in (i := 1842) ⟨rfl, rfl⟩, w_in (i := 1843) ⟨rfl, rfl⟩, w_in (i := 1844) ⟨rfl, rfl⟩, Or.inl ⟨by decide +kernel, by decide +kernel, rfl⟩⟩)⟩
set_option maxRecDepth 100000 in
theorem v_c339 : c_ok (120249, 319) := Or.inl ⟨by decide, by decide, by decide, w_in (i := 104) ⟨rfl, rfl⟩, by decide +kernel, by decide +kernel, Or.inl ⟨by decide +kernel, by decide +kernel, w_in (i := 1077) ⟨rfl, rfl⟩, w_in (i := 1078) ⟨rfl, rfl⟩⟩⟩
set_option maxRecDepth 100000 in
theorem v_c340 : c_ok (120252, 246) := Or.inl ⟨by decide, by decide, by decide, w_in (i := 115) ⟨rfl, rfl⟩, by decide +kernel, by decide +kernel, Or.inr (Or.inl ⟨by decide +kernel, by decide +kernel, w_in (i := 1850) ⟨rfl, rfl⟩, w_in (i := 1851) ⟨rfl, rfl⟩, w_in (i := 1852) ⟨rfl, rfl⟩, Or.inl ⟨by decide +kernel, by decide +kernel, rfl⟩⟩)⟩
set_option maxRecDepth 100000 in
theorem v_c341 : c_ok (120253, 320) := Or.inl ⟨by decide, by decide, by decide, w_in (i := 104) ⟨rfl, rfl⟩, by decide +kernel, by decide +kernel, Or.inl ⟨by decide +kernel, by decide +kernel, w_in (i := 1084) ⟨rfl, rfl⟩, w_in (i := 1085) ⟨rfl, rfl⟩⟩⟩
set_option maxRecDepth 100000 in
theorem v_c342 : c_ok (120255, 248) := Or.inl ⟨by decide, by decide, by decide, w_in (i := 115) ⟨rfl, rfl⟩, by decide +kernel, by decide +kernel, Or.inr (Or.inl ⟨by decide +kernel, by decide +kernel, w_in (i := 1854) ⟨rfl, rfl⟩, w_in (i := 1855) ⟨rfl, rfl⟩, w_in (i := 1856) ⟨rfl, rfl⟩, Or.inl ⟨by decide +kernel, by decide +kernel, rfl⟩⟩)⟩
set_option maxRecDepth 100000 in
theorem v_c343 : c_ok (120256, 321) := Or.inl ⟨by decide, by decide, by decide, w_in (i := 104) ⟨rfl, rfl⟩, by decide +kernel, by decide +kernel, Or.inl ⟨by decide +kernel, by decide +kernel, w_in (i := 1095) ⟨rfl, rfl⟩, w_in (i := 1096) ⟨rfl, rfl⟩⟩⟩
set_option maxRecDepth 100000 in
theorem v_c344 : c_ok (120258, 250) := Or.inl ⟨by decide, by decide, by decide, w_in (i := 115) ⟨rfl, rfl⟩, by decide +kernel, by decide +kernel, Or.inr (Or.inl ⟨by decide +kernel, by decide +kernel, w_in (i := 1862) ⟨rfl, rfl⟩, w_in (i := 1863) ⟨rfl, rfl⟩, w_in (i := 1864) ⟨rfl, rfl⟩, Or.inl ⟨by decide +kernel, by decide +kernel, rfl⟩⟩)⟩
set_option maxRecDepth 100000 in
theorem v_c345 : c_ok (120259, 322) := Or.inl ⟨by decide, by decide, by decide, w_in (i := 104) ⟨rfl, rfl⟩, by decide +kernel, by decide +kernel, Or.inl ⟨by decide +kernel, by decide +kernel, w_in (i := 1160) ⟨rfl, rfl⟩, w_in (i := 1161) ⟨rfl, rfl⟩⟩⟩
set_option maxRecDepth 100000 in
theorem v_c346 : c_ok (120261, 254) := Or.inl ⟨by decide, by decide, by decide, w_in (i := 115) ⟨rfl, rfl⟩, by decide +kernel, by decide +kernel, Or.inr (Or.inl ⟨by decide +kernel, by decide +kernel, w_in (i := 1911) ⟨rfl, rfl⟩, w_in (i := 1912) ⟨rfl, rfl⟩, w_in (i := 1913) ⟨rfl, rfl⟩, Or.inl ⟨by decide +kernel, by decide +kernel, rfl⟩⟩)⟩
set_option maxRecDepth 100000 in
theorem v_c347 : c_ok (120262, 323) := Or.inl ⟨by decide, by decide, by decide, w_in (i := 104) ⟨rfl, rfl⟩, by decide +kernel, by decide +kernel, Or.inl ⟨by decide +kernel, by decide +kernel, w_in (i := 1171) ⟨rfl, rfl⟩, w_in (i := 1172) ⟨rfl, rfl⟩⟩⟩
set_option maxRecDepth 100000 in
theorem v_c348 : c_ok (120264, 256) := Or.inl ⟨by decide, by decide, by decide, w_in (i := 115) ⟨rfl, rfl⟩, by decide +kernel, by decide +kernel, Or.inr (Or.inl ⟨by decide +kernel, by decide +kernel, w_in (i := 1935) ⟨rfl, rfl⟩, w_in (i := 1936) ⟨rfl, rfl⟩, w_in (i := 1937) ⟨rfl, rfl⟩, Or.inl ⟨by decide +kernel, by decide +kernel, rfl⟩⟩)⟩
set_option maxRecDepth 100000 in
theorem v_c349 : c_ok (120265, 324) := Or.inl ⟨by decide, by decide, by decide, w_in (i := 104) ⟨rfl, rfl⟩, by decide +kernel, by decide +kernel, Or.inl ⟨by decide +kernel, by decide +kernel, w_in (i := 1179) ⟨rfl, rfl⟩, w_in (i := 1180) ⟨rfl, rfl⟩⟩⟩
set_option maxRecDepth 100000 in
theorem v_c350 : c_ok (120267, 258) := Or.inl ⟨by decide, by decide, by decide, w_in (i := 115) ⟨rfl, rfl⟩, by decide +kernel, by decide +kernel, Or.inr (Or.inl ⟨by decide +kernel, by decide +kernel, w_in (i := 1943) ⟨rfl, rfl⟩, w_in (i := 1944) ⟨rfl, rfl⟩, w_in (i := 1945) ⟨rfl, rfl⟩, Or.inl ⟨by decide +kernel, by decide +kernel, rfl⟩⟩)⟩
set_option maxRecDepth 100000 in
theorem v_c351 : c_ok (120268, 325) := Or.inl ⟨by decide, by decide, by decide, w_in (i := 104) ⟨rfl, rfl⟩, by decide +kernel, by decide +kernel, Or.inl ⟨by decide +kernel, by decide +kernel, w_in (i := 1186) ⟨rfl, rfl⟩, w_in (i := 1187) ⟨rfl, rfl⟩⟩⟩
set_option maxRecDepth 100000 in
theorem v_c352 : c_ok (120270, 260) := Or.inl ⟨by decide, by decide, by decide, w_in (i := 115) ⟨rfl, rfl⟩, by decide +kernel, by decide +kernel, Or.inr (Or.inl ⟨by decide +kernel, by decide +kernel, w_in (i := 1951) ⟨rfl, rfl⟩, w_in (i := 1952) ⟨rfl, rfl⟩, w_in (i := 1953) ⟨rfl, rfl⟩, Or.inl ⟨by decide +kernel, by decide +kernel, rfl⟩⟩)⟩
set_option maxRecDepth 100000 in
theorem v_c353 : c_ok (120271, 326) := Or.inl ⟨by decide, by decide, by decide, w_in (i := 104) ⟨rfl, rfl⟩, by decide +kernel, by decide +kernel, Or.inl ⟨by decide +kernel, by decide +kernel, w_in (i := 1193) ⟨rfl, rfl⟩, w_in (i := 1194) ⟨rfl, rfl⟩⟩⟩
set_option maxRecDepth 100000 in
theorem v_c354 : c_ok (120273, 261) := Or.inl ⟨by decide, by decide, by decide, w_in (i := 115) ⟨rfl, rfl⟩, by decide +kernel, by decide +kernel, Or.inr (Or.inl ⟨by decide +kernel, by decide +kernel, w_in (i := 1964) ⟨rfl, rfl⟩, w_in (i := 1965) ⟨rfl, rfl⟩, w_in (i := 1966) ⟨rfl, rfl⟩, Or.inl ⟨by decide +kernel, by decide +kernel, rfl⟩⟩)⟩
set_option maxRecDepth 100000 in
theorem v_c355 : c_ok (120274, 327) := Or.inl ⟨by decide, by decide, by decide, w_in (i := 104) ⟨rfl, rfl⟩, by decide +kernel, by decide +kernel, Or.inl ⟨by decide +kernel, by decide +kernel, w_in (i := 1200) ⟨rfl, rfl⟩, w_in (i := 1201) ⟨rfl, rfl⟩⟩⟩
set_option maxRecDepth 100000 in
theorem v_c356 : c_ok (120276, 263) := Or.inl ⟨by decide, by decide, by decide, w_in (i := 115) ⟨rfl, rfl⟩, by decide +kernel, by decide +kernel, Or.inr (Or.inl ⟨by decide +kernel, by decide +kernel, w_in (i := 1968) ⟨rfl, rfl⟩, w_in (i := 1969) ⟨rfl, rfl⟩, w_in (i := 1970) ⟨rfl, rfl⟩, Or.inl ⟨by decide +kernel, by decide +kernel, rfl⟩⟩)⟩
set_option maxRecDepth 100000 in
theorem v_c357 : c_ok (120277, 328) := Or.inl ⟨by decide, by decide, by decide, w_in (i := 104) ⟨rfl, rfl⟩, by decide +kernel, by decide +kernel, Or.inl ⟨by decide +kernel, by decide +kernel, w_in (i := 1207) ⟨rfl, rfl⟩, w_in (i := 1208) ⟨rfl, rfl⟩⟩⟩
set_option maxRecDepth 100000 in
theorem v_c358 : c_ok (120279, 264) := Or.inl ⟨by decide, by decide, by decide, w_in (i := 115) ⟨rfl, rfl⟩, by decide +kernel, by decide +kernel, Or.inr (Or.inl ⟨by decide +kernel, by decide +kernel, w_in (i := 1976) ⟨rfl, rfl⟩, w_in (i := 1977) ⟨rfl, rfl⟩, w_in (i := 1978) ⟨rfl, rfl⟩, Or.inl ⟨by decide +kernel, by decide +kernel, rfl⟩⟩)⟩
set_option maxRecDepth 100000 in
theorem v_c359 : c_ok (120280, 329) := Or.inl ⟨by decide, by decide, by decide, w_in (i := 104) ⟨rfl, rfl⟩, by decide +kernel, by decide +kernel, Or.inl ⟨by decide +kernel, by decide +kernel, w_in (i := 1214) ⟨rfl, rfl⟩, w_in (i := 1215) ⟨rfl, rfl⟩⟩⟩
set_option maxRecDepth 100000 in
theorem v_c360 : c_ok (120282, 265) := Or.inl ⟨by decide, by decide, by decide, w_in (i := 115) ⟨rfl, rfl⟩, by decide +kernel, by decide +kernel, Or.inr (Or.inl ⟨by decide +kernel, by decide +kernel, w_in (i := 1980) ⟨rfl, rfl⟩, w_in (i := 1981) ⟨rfl, rfl⟩, w_in (i := 1982) ⟨rfl, rfl⟩, Or.inl ⟨by decide +kernel, by decide +kernel, rfl⟩⟩)⟩
set_option maxRecDepth 100000 in
theorem v_c361 : c_ok (120283, 330) := Or.inl ⟨by decide, by decide, by decide, w_in (i := 104) ⟨rfl, rfl⟩, by decide +kernel, by decide +kernel, Or.inl ⟨by decide +kernel, by decide +kernel, w_in (i := 1221) ⟨rfl, rfl⟩, w_in (i := 1222) ⟨rfl, rfl⟩⟩⟩
set_option maxRecDepth 100000 in
theorem v_c362 : c_ok (120285, 267) := Or.inl ⟨by decide, by decide, by decide, w_in (i := 115) ⟨rfl, rfl⟩, by decide +kernel, by decide +kernel, Or.inr (Or.inl ⟨by decide +kernel, by decide +kernel, w_in (i := 1984) ⟨rfl, rfl⟩, w_in (i := 1985) ⟨rfl, rfl⟩, w_in (i := 1986) ⟨rfl, rfl⟩, Or.inl ⟨by decide +kernel, by decide +kernel, rfl⟩⟩)⟩
set_option maxRecDepth 100000 in
theorem v_c363 : c_ok (120286, 331) := Or.inl ⟨by decide, by decide, by decide, w_in (i := 104) ⟨rfl, rfl⟩, by decide +kernel, by decide +kernel, Or.inl ⟨by decide +kernel, by decide +kernel, w_in (i := 1228) ⟨rfl, rfl⟩, w_in (i := 1229) ⟨rfl, rfl⟩⟩⟩
set_option maxRecDepth 100000 in
theorem v_c364 : c_ok (120288, 268) := Or.inl ⟨by decide, by decide, by decide, w_in (i := 115) ⟨rfl, rfl⟩, by decide +kernel, by decide +kernel, Or.inr (Or.inl ⟨by decide +kernel, by decide +kernel, w_in (i := 1993) ⟨rfl, rfl⟩, w_in (i := 1994) ⟨rfl, rfl⟩, w_in (i := 1995) ⟨rfl, rfl⟩, Or.inl ⟨by decide +kernel, by decide +kernel, rfl⟩⟩)⟩
set_option maxRecDepth 100000 in
theorem v_c365 : c_ok (120289, 332) := Or.inl ⟨by decide, by decide, by decide, w_in (i := 104) ⟨rfl, rfl⟩, by decide +kernel, by decide +kernel, Or.inl ⟨by decide +kernel, by decide +kernel, w_in (i := 1235) ⟨rfl, rfl⟩, w_in (i := 1236) ⟨rfl, rfl⟩⟩⟩
set_option maxRecDepth 100000 in
theorem v_c366 : c_ok (120292, 269) := Or.inl ⟨by decide, by decide, by decide, w_in (i := 115) ⟨rfl, rfl⟩, by decide +kernel, by decide +kernel, Or.inr (Or.inl ⟨by decide +kernel, by decide +kernel, w_in (i := 1997) ⟨rfl, rfl⟩, w_in (i := 1998) ⟨rfl, rfl⟩, w_in (i := 1999) ⟨rfl, rfl⟩, Or.inl ⟨by decide +kernel, by decide +kernel, rfl⟩⟩)⟩
set_option maxRecDepth 100000 in
theorem v_c367 : c_ok (120293, 333) := Or.inl ⟨by decide, by decide, by decide, w_in (i := 104) ⟨rfl, rfl⟩, by decide +kernel, by decide +kernel, Or.inl ⟨by decide +kernel, by decide +kernel, w_in (i := 1248) ⟨rfl, rfl⟩, w_in (i := 1249) ⟨rfl, rfl⟩⟩⟩
set_option maxRecDepth 100000 in
theorem v_c368 : c_ok (120295, 270) := Or.inl ⟨by decide, by decide, by decide, w_in (i := 115) ⟨rfl, rfl⟩, by decide +kernel, by decide +kernel, Or.inr (Or.inl ⟨by decide +kernel, by decide +kernel, w_in (i := 2001) ⟨rfl, rfl⟩, w_in (i := 2002) ⟨rfl, rfl⟩, w_in (i := 2003) ⟨rfl, rfl⟩, Or.inl ⟨by decide +kernel, by decide +kernel, rfl⟩⟩)⟩
set_option maxRecDepth 100000 in
theorem v_c369 : c_ok (120296, 334) := Or.inl ⟨by decide, by decide, by decide, w_in (i := 104) ⟨rfl, rfl⟩, by decide +kernel, by decide +kernel, Or.inl ⟨by decide +kernel, by decide +kernel, w_in (i := 1255) ⟨rfl, rfl⟩, w_in (i := 1256) ⟨rfl, rfl⟩⟩⟩
set_option maxRecDepth 100000 in
theorem v_c370 : c_ok (120298, 273) := Or.inl ⟨by decide, by decide, by decide, w_in (i := 115) ⟨rfl, rfl⟩, by decide +kernel, by decide +kernel, Or.inr (Or.inl ⟨by decide +kernel, by decide +kernel, w_in (i := 2005) ⟨rfl, rfl⟩, w_in (i := 2006) ⟨rfl, rfl⟩, w_in (i := 2007) ⟨rfl, rfl⟩, Or.inl ⟨by decide +kernel, by decide +kernel, rfl⟩⟩)⟩
set_option maxRecDepth 100000 in
theorem v_c371 : c_ok (120299, 335) := Or.inl ⟨by decide, by decide, by decide, w_in (i := 104) ⟨rfl, rfl⟩, by decide +kernel, by decide +kernel, Or.inl ⟨by decide +kernel, by decide +kernel, w_in (i := 1275) ⟨rfl, rfl⟩, w_in (i := 1276) ⟨rfl, rfl⟩⟩⟩
set_option maxRecDepth 100000 in
theorem v_c372 : c_ok (120301, 274) := Or.inl ⟨by decide, by decide, by decide, w_in (i := 115) ⟨rfl, rfl⟩, by decide +kernel, by decide +kernel, Or.inr (Or.inl ⟨by decide +kernel, by decide +kernel, w_in (i := 2017) ⟨rfl, rfl⟩, w_in (i := 2018) ⟨rfl, rfl⟩, w_in (i := 2019) ⟨rfl, rfl⟩, Or.inl ⟨by decide +kernel, by decide +kernel, rfl⟩⟩)⟩
set_option maxRecDepth 100000 in
theorem v_c373 : c_ok (120302, 336) := Or.inl ⟨by decide, by decide, by decide, w_in (i := 104) ⟨rfl, rfl⟩, by decide +kernel, by decide +kernel, Or.inl ⟨by decide +kernel, by decide +kernel, w_in (i := 1287) ⟨rfl, rfl⟩, w_in (i := 1288) ⟨rfl, rfl⟩⟩⟩
set_option maxRecDepth 100000 in
theorem v_c374 : c_ok (120304, 275) := Or.inl ⟨by decide, by decide, by decide, w_in (i := 115) ⟨rfl, rfl⟩, by decide +kernel, by decide +kernel, Or.inr (Or.inl ⟨by decide +kernel, by decide +kernel, w_in (i := 2021) ⟨rfl, rfl⟩, w_in (i := 2022) ⟨rfl, rfl⟩, w_in (i := 2023) ⟨rfl, rfl⟩, Or.inl ⟨by decide +kernel, by decide +kernel, rfl⟩⟩)⟩
set_option maxRecDepth 100000 in
theorem v_c375 : c_ok (120305, 337) := Or.inl ⟨by decide, by decide, by decide, w_in (i := 104) ⟨rfl, rfl⟩, by decide +kernel, by decide +kernel, Or.inl ⟨by decide +kernel, by decide +kernel, w_in (i := 1295) ⟨rfl, rfl⟩, w_in (i := 1296) ⟨rfl, rfl⟩⟩⟩
set_option maxRecDepth 100000 in
theorem v_c376 : c_ok (120308, 281) := Or.inl ⟨by decide, by decide, by decide, w_in (i := 115) ⟨rfl, rfl⟩, by decide +kernel, by decide +kernel, Or.inr (Or.inl ⟨by decide +kernel, by decide +kernel, w_in (i := 2025) ⟨rfl, rfl⟩, w_in (i := 2026) ⟨rfl, rfl⟩, w_in (i := 2027) ⟨rfl, rfl⟩, Or.inl ⟨by decide +kernel, by decide +kernel, rfl⟩⟩)⟩
set_option maxRecDepth 100000 in
theorem v_c377 : c_ok (120309, 338) := Or.inl ⟨by decide, by decide, by decide, w_in (i := 104) ⟨rfl, rfl⟩, by decide +kernel, by decide +kernel, Or.inl ⟨by decide +kernel, by decide +kernel, w_in (i := 1332) ⟨rfl, rfl⟩, w_in (i := 1333) ⟨rfl, rfl⟩⟩⟩
set_option maxRecDepth 100000 in
theorem v_c378 : c_ok (120311, 282) := Or.inl ⟨by decide, by decide, by decide, w_in (i := 115) ⟨rfl, rfl⟩, by decide +kernel, by decide +kernel, Or.inr (Or.inl ⟨by decide +kernel, by decide +kernel, w_in (i := 2049) ⟨rfl, rfl⟩, w_in (i := 2050) ⟨rfl, rfl⟩, w_in (i := 2051) ⟨rfl, rfl⟩, Or.inl ⟨by decide +kernel, by decide +kernel, rfl⟩⟩)⟩
set_option maxRecDepth 100000 in
theorem v_c379 : c_ok (120312, 339) := Or.inl ⟨by decide, by decide, by decide, w_in (i := 104) ⟨rfl, rfl⟩, by decide +kernel, by decide +kernel, Or.inl ⟨by decide +kernel, by decide +kernel, w_in (i := 1340) ⟨rfl, rfl⟩, w_in (i := 1341) ⟨rfl, rfl⟩⟩⟩
set_option maxRecDepth 100000 in
theorem v_c380 : c_ok (120314, 283) := Or.inl ⟨by decide, by decide, by decide, w_in (i := 115) ⟨rfl, rfl⟩, by decide +kernel, by decide +kernel, Or.inr (Or.inl ⟨by decide +kernel, by decide +kernel, w_in (i := 2053) ⟨rfl, rfl⟩, w_in (i := 2054) ⟨rfl, rfl⟩, w_in (i := 2055) ⟨rfl, rfl⟩, Or.inl ⟨by decide +kernel, by decide +kernel, rfl⟩⟩)⟩
set_option maxRecDepth 100000 in
theorem v_c381 : c_ok (120315, 340) := Or.inl ⟨by decide, by decide, by decide, w_in (i := 104) ⟨rfl, rfl⟩, by decide +kernel, by decide +kernel, Or.inl ⟨by decide +kernel, by decide +kernel, w_in (i := 1348) ⟨rfl, rfl⟩, w_in (i := 1349) ⟨rfl, rfl⟩⟩⟩
set_option maxRecDepth 100000 in
theorem v_c382 : c_ok (120317, 284) := Or.inl ⟨by decide, by decide, by decide, w_in (i := 115) ⟨rfl, rfl⟩, by decide +kernel, by decide +kernel, Or.inr (Or.inl ⟨by decide +kernel, by decide +kernel, w_in (i := 2057) ⟨rfl, rfl⟩, w_in (i := 2058) ⟨rfl, rfl⟩, w_in (i := 2059) ⟨rfl, rfl⟩, Or.inl ⟨by decide +kernel, by decide +kernel, rfl⟩⟩)⟩
set_option maxRecDepth 100000 in
theorem v_c383 : c_ok (120318, 341) := Or.inl ⟨by decide, by decide, by decide, w_in (i := 104) ⟨rfl, rfl⟩, by decide +kernel, by decide +kernel, Or.inl ⟨by decide +kernel, by decide +kernel, w_in (i := 1356) ⟨rfl, rfl⟩, w_in (i := 1357) ⟨rfl, rfl⟩⟩⟩
set_option maxRecDepth 100000 in
theorem v_c384 : c_ok (120320, 285) := Or.inl ⟨by decide, by decide, by decide, w_in (i := 115) ⟨rfl, rfl⟩, by decide +kernel, by decide +kernel, Or.inr (Or.inl ⟨by decide +kernel, by decide +kernel, w_in (i := 2061) ⟨rfl, rfl⟩, w_in (i := 2062) ⟨rfl, rfl⟩, w_in (i := 2063) ⟨rfl, rfl⟩, Or.inl ⟨by decide +kernel, by decide +kernel, rfl⟩⟩)⟩
set_option maxRecDepth 100000 in
theorem v_c385 : c_ok (120321, 342) := Or.inl ⟨by decide, by decide, by decide, w_in (i := 104) ⟨rfl, rfl⟩, by decide +kernel, by decide +kernel, Or.inl ⟨by decide +kernel, by decide +kernel, w_in (i := 1363) ⟨rfl, rfl⟩, w_in (i := 1364) ⟨rfl, rfl⟩⟩⟩
set_option maxRecDepth 100000 in
theorem v_c386 : c_ok (120323, 286) := Or.inl ⟨by decide, by decide, by decide, w_in (i := 115) ⟨rfl, rfl⟩, by decide +kernel, by decide +kernel, Or.inr (Or.inl ⟨by decide +kernel, by decide +kernel, w_in (i := 2066) ⟨rfl, rfl⟩, w_in (i := 2067) ⟨rfl, rfl⟩, w_in (i := 2068) ⟨rfl, rfl⟩, Or.inl ⟨by decide +kernel, by decide +kernel, rfl⟩⟩)⟩
set_option maxRecDepth 100000 in
theorem v_c387 : c_ok (120324, 343) := Or.inl ⟨by decide, by decide, by decide, w_in (i := 104) ⟨rfl, rfl⟩, by decide +kernel, by decide +kernel, Or.inl ⟨by decide +kernel, by decide +kernel, w_in (i := 1372) ⟨rfl, rfl⟩, w_in (i := 1373) ⟨rfl, rfl⟩⟩⟩
set_option maxRecDepth 100000 in
theorem v_c388 : c_ok (120326, 287) := Or.inl ⟨by decide, by decide, by decide, w_in (i := 115) ⟨rfl, rfl⟩, by decide +kernel, by decide +kernel, Or.inr (Or.inl ⟨by decide +kernel, by decide +kernel, w_in (i := 2071) ⟨rfl, rfl⟩, w_in (i := 2072) ⟨rfl, rfl⟩, w_in (i := 2073) ⟨rfl, rfl⟩, Or.inl ⟨by decide +kernel, by decide +kernel, rfl⟩⟩)⟩
set_option maxRecDepth 100000 in
theorem v_c389 : c_ok (120327, 344) := Or.inl ⟨by decide, by decide, by decide, w_in (i := 104) ⟨rfl, rfl⟩, by decide +kernel, by decide +kernel, Or.inl ⟨by decide +kernel, by decide +kernel, w_in (i := 1384) ⟨rfl, rfl⟩, w_in (i := 1385) ⟨rfl, rfl⟩⟩⟩
set_option maxRecDepth 100000 in
theorem v_c390 : c_ok (120329, 288) := Or.inl ⟨by decide, by decide, by decide, w_in (i := 115) ⟨rfl, rfl⟩, by decide +kernel, by decide +kernel, Or.inr (Or.inl ⟨by decide +kernel, by decide +kernel, w_in (i := 2075) ⟨rfl, rfl⟩, w_in (i := 2076) ⟨rfl, rfl⟩, w_in (i := 2077) ⟨rfl, rfl⟩, Or.inl ⟨by decide +kernel, by decide +kernel, rfl⟩⟩)⟩
set_option maxRecDepth 100000 in
theorem v_c391 : c_ok (120330, 345) := Or.inl ⟨by decide, by decide, by decide, w_in (i := 104) ⟨rfl, rfl⟩, by decide +kernel, by decide +kernel, Or.inl ⟨by decide +kernel, by decide +kernel, w_in (i := 1391) ⟨rfl, rfl⟩, w_in (i := 1392) ⟨rfl, rfl⟩⟩⟩
set_option maxRecDepth 100000 in
theorem v_c392 : c_ok (120332, 289) := Or.inl ⟨by decide, by decide, by decide, w_in (i := 115) ⟨rfl, rfl⟩, by decide +kernel, by decide +kernel, Or.inr (Or.inl ⟨by decide +kernel, by decide +kernel, w_in (i := 2080) ⟨rfl, rfl⟩, w_in (i := 2081) ⟨rfl, rfl⟩, w_in (i := 2082) ⟨rfl, rfl⟩, Or.inl ⟨by decide +kernel, by decide +kernel, rfl⟩⟩)⟩
set_option maxRecDepth 100000 in
theorem v_c393 : c_ok (120333, 346) := Or.inl ⟨by decide, by decide, by decide, w_in (i := 104) ⟨rfl, rfl⟩, by decide +kernel, by decide +kernel, Or.inl ⟨by decide +kernel, by decide +kernel, w_in (i := 1398) ⟨rfl, rfl⟩, w_in (i := 1399) ⟨rfl, rfl⟩⟩⟩
set_option maxRecDepth 100000 in
theorem v_c394 : c_ok (120335, 290) := Or.inl ⟨by decide, by decide, by decide, w_in (i := 115) ⟨rfl, rfl⟩, by decide +kernel, by decide +kernel, Or.inr (Or.inl ⟨by decide +kernel, by decide +kernel, w_in (i := 2084) ⟨rfl, rfl⟩, w_in (i := 2085) ⟨rfl, rfl⟩, w_in (i := 2086) ⟨rfl, rfl⟩, Or.inl ⟨by decide +kernel, by decide +kernel, rfl⟩⟩)⟩
set_option maxRecDepth 100000 in
theorem v_c395 : c_ok (120336, 347) := Or.inl ⟨by decide, by decide, by decide, w_in (i := 104) ⟨rfl, rfl⟩, by decide +kernel, by decide +kernel, Or.inl ⟨by decide +kernel, by decide +kernel, w_in (i := 1409) ⟨rfl, rfl⟩, w_in (i := 1410) ⟨rfl, rfl⟩⟩⟩
set_option maxRecDepth 100000 in
theorem v_c396 : c_ok (120338, 291) := Or.inl ⟨by decide, by decide, by decide, w_in (i := 115) ⟨rfl, rfl⟩, by decide +kernel, by decide +kernel, Or.inr (Or.inl ⟨by decide +kernel, by decide +kernel, w_in (i := 2088) ⟨rfl, rfl⟩, w_in (i := 2089) ⟨rfl, rfl⟩, w_in (i := 2090) ⟨rfl, rfl⟩, Or.inl ⟨by decide +kernel, by decide +kernel, rfl⟩⟩)⟩
set_option maxRecDepth 100000 in
theorem v_c397 : c_ok (120339, 141) := Or.inl ⟨by decide, by decide, by decide, w_in (i := 105) ⟨rfl, rfl⟩, by decide +kernel, by decide +kernel, Or.inr (Or.inl ⟨by decide +kernel, by decide +kernel, w_in (i := 514) ⟨rfl, rfl⟩, w_in (i := 515) ⟨rfl, rfl⟩, w_in (i := 516) ⟨rfl, rfl⟩, Or.inl ⟨by decide +kernel, by decide +kernel, rfl⟩⟩)⟩
set_option maxRecDepth 100000 in
theorem v_c398 : c_ok (120342, 292) := Or.inl ⟨by decide, by decide, by decide, w_in (i := 115) ⟨rfl, rfl⟩, by decide +kernel, by decide +kernel, Or.inr (Or.inl ⟨by decide +kernel, by decide +kernel, w_in (i := 2092) ⟨rfl, rfl⟩, w_in (i := 2093) ⟨rfl, rfl⟩, w_in (i := 2094) ⟨rfl, rfl⟩, Or.inl ⟨by decide +kernel, by decide +kernel, rfl⟩⟩)⟩
set_option maxRecDepth 100000 in
theorem v_c399 : c_ok (120343, 348) := Or.inl ⟨by decide, by decide, by decide, w_in (i := 104) ⟨rfl, rfl⟩, by decide +kernel, by decide +kernel, Or.inl ⟨by decide +kernel, by decide +kernel, w_in (i := 1421) ⟨rfl, rfl⟩, w_in (i := 1422) ⟨rfl, rfl⟩⟩⟩
set_option maxRecDepth 100000 in
theorem v_c400 : c_ok (120345, 293) := Or.inl ⟨by decide, by decide, by decide, w_in (i := 115) ⟨rfl, rfl⟩, by decide +kernel, by decide +kernel, Or.inr (Or.inl ⟨by decide +kernel, by decide +kernel, w_in (i := 2096) ⟨rfl, rfl⟩, w_in (i := 2097) ⟨rfl, rfl⟩, w_in (i := 2098) ⟨rfl, rfl⟩, Or.inl ⟨by decide +kernel, by decide +kernel, rfl⟩⟩)⟩
set_option maxRecDepth 100000 in
theorem v_c401 : c_ok (120346, 349) := Or.inl ⟨by decide, by decide, by decide, w_in (i := 104) ⟨rfl, rfl⟩, by decide +kernel, by decide +kernel, Or.inl ⟨by decide +kernel, by decide +kernel, w_in (i := 1433) ⟨rfl, rfl⟩, w_in (i := 1434) ⟨rfl, rfl⟩⟩⟩
set_option maxRecDepth 100000 in
theorem v_c402 : c_ok (120348, 294) := Or.inl ⟨by decide, by decide, by decide, w_in (i := 115) ⟨rfl, rfl⟩, by decide +kernel, by decide +kernel, Or.inr (Or.inl ⟨by decide +kernel, by decide +kernel, w_in (i := 2100) ⟨rfl, rfl⟩, w_in (i := 2101) ⟨rfl, rfl⟩, w_in (i := 2102) ⟨rfl, rfl⟩, Or.inl ⟨by decide +kernel, by decide +kernel, rfl⟩⟩)⟩
set_option maxRecDepth 100000 in
theorem v_c403 : c_ok (140335, 354) := Or.inl ⟨by decide, by decide, by decide, w_in (i := 120) ⟨rfl, rfl⟩, by decide +kernel, by decide +kernel, Or.inr (Or.inl ⟨by decide +kernel, by decide +kernel, w_in (i := 638) ⟨rfl, rfl⟩, w_in (i := 639) ⟨rfl, rfl⟩, w_in (i := 640) ⟨rfl, rfl⟩, Or.inr ⟨by decide +kernel, rfl⟩⟩)⟩
set_option maxRecDepth 100000 in
theorem v_c404 : c_ok (140492, 355) := Or.inl ⟨by decide, by decide, by decide, w_in (i := 120) ⟨rfl, rfl⟩, by decide +kernel, by decide +kernel, Or.inr (Or.inl ⟨by decide +kernel, by decide +kernel, w_in (i := 648) ⟨rfl, rfl⟩, w_in (i := 649) ⟨rfl, rfl⟩, w_in (i := 650) ⟨rfl, rfl⟩, Or.inr ⟨by decide +kernel, rfl⟩⟩)⟩
set_option maxRecDepth 100000 in
theorem v_c405 : c_ok (140495, 357) := Or.inl ⟨by decide, by decide, by decide, w_in (i := 121) ⟨rfl, rfl⟩, by decide +kernel, by decide +kernel, Or.inl ⟨by decide +kernel, by decide +kernel, w_in (i := 652) ⟨rfl, rfl⟩, w_in (i := 653) ⟨rfl, rfl⟩⟩⟩
set_option maxRecDepth 100000 in
theorem v_c406 : c_ok (141059, 358) := Or.inl ⟨by decide, by decide, by decide, w_in (i := 122) ⟨rfl, rfl⟩, by decide +kernel, by decide +kernel, Or.inl ⟨by decide +kernel, by decide +kernel, w_in (i := 660) ⟨rfl, rfl⟩, w_in (i := 661) ⟨rfl, rfl⟩⟩⟩
set_option maxRecDepth 100000 in
theorem v_c407 : c_ok (150009, 356) := Or.inl ⟨by decide, by decide, by decide, w_in (i := 120) ⟨rfl, rfl⟩, by decide +kernel, by decide +kernel, Or.inl ⟨by decide +kernel, by decide +kernel, w_in (i := 655) ⟨rfl, rfl⟩, w_in (i := 656) ⟨rfl, rfl⟩⟩⟩
set_option maxRecDepth 100000 in
theorem v_c408 : c_ok (160414, 356) := Or.inl ⟨by decide, by decide, by decide, w_in (i := 120) ⟨rfl, rfl⟩, by decide +kernel, by decide +kernel, Or.inl ⟨by decide +kernel, by decide +kernel, w_in (i := 672) ⟨rfl, rfl⟩, w_in (i := 656) ⟨rfl, rfl⟩⟩⟩
theorem v_cal_0 : ∀ q ∈ c_calL_0, c_ok q := List.forall_mem_cons.mpr ⟨v_c0, List.forall_mem_cons.mpr ⟨v_c1, List.forall_mem_cons.mpr ⟨v_c2, List.forall_mem_cons.mpr ⟨v_c3, List.forall_mem_cons.mpr ⟨v_c4, List.forall_mem_cons.mpr ⟨v_c5, List.forall_mem_cons.mpr ⟨v_c6, List.forall_mem_cons.mpr ⟨v_c7, List.forall_mem_cons.mpr ⟨v_c8, List.forall_mem_cons.mpr ⟨v_c9, List.forall_mem_cons.mpr ⟨v_c10, List.forall_mem_cons.mpr ⟨v_c11, List.forall_mem_cons.mpr ⟨v_c12, List.forall_mem_cons.mpr ⟨v_c13, List.forall_mem_cons.mpr ⟨v_c14, List.forall_mem_cons.mpr ⟨v_c15, List.forall_mem_cons.mpr ⟨v_c16, List.forall_mem_cons.mpr ⟨v_c17, List.forall_mem_cons.mpr ⟨v_c18, List.forall_mem_cons.mpr ⟨v_c19, List.forall_mem_cons.mpr ⟨v_c20, List.forall_mem_cons.mpr ⟨v_c21, List.forall_mem_cons.mpr ⟨v_c22, List.forall_mem_cons.mpr ⟨v_c23, List.forall_mem_cons.mpr ⟨v_c24, List.forall_mem_cons.mpr ⟨v_c25, List.forall_mem_cons.mpr ⟨v_c26, List.forall_mem_cons.mpr ⟨v_c27, List.forall_mem_cons.mpr ⟨v_c28, List.forall_mem_cons.mpr ⟨v_c29, List.forall_mem_cons.mpr ⟨v_c30, List.forall_mem_cons.mpr ⟨v_c31, List.forall_mem_cons.mpr ⟨v_c32, List.forall_mem_cons.mpr ⟨v_c33, List.forall_mem_cons.mpr ⟨v_c34, List.forall_mem_cons.mpr ⟨v_c35, List.forall_mem_cons.mpr ⟨v_c36, List.forall_mem_cons.mpr ⟨v_c37, List.forall_mem_cons.mpr ⟨v_c38, List.forall_mem_cons.mpr ⟨v_c39, List.forall_mem_cons.mpr ⟨v_c40, List.forall_mem_cons.mpr ⟨v_c41, List.forall_mem_cons.mpr ⟨v_c42, List.forall_mem_cons.mpr ⟨v_c43, List.forall_mem_cons.mpr ⟨v_c44, List.forall_mem_cons.mpr ⟨v_c45, List.forall_mem_cons.mpr ⟨v_c46, List.forall_mem_cons.mpr ⟨v_c47, List.forall_mem_cons.mpr ⟨v_c48, List.forall_mem_cons.mpr ⟨v_c49, List.forall_mem_cons.mpr ⟨v_c50, List.forall_mem_cons.mpr ⟨v_c51, List.forall_mem_cons.mpr ⟨v_c52, List.forall_mem_cons.mpr ⟨v_c53, List.forall_mem_cons.mpr ⟨v_c54, List.forall_mem_cons.mpr ⟨v_c55, List.forall_mem_cons.mpr ⟨v_c56, List.forall_mem_cons.mpr ⟨v_c57, List.forall_mem_cons.mpr ⟨v_c58, List.forall_mem_cons.mpr ⟨v_c59, List.forall_mem_cons.mpr ⟨v_c60, List.forall_mem_cons.mpr ⟨v_c61, List.forall_mem_cons.mpr ⟨v_c62, List.forall_mem_cons.mpr ⟨v_c63, List.forall_mem_cons.mpr ⟨v_c64, List.forall_mem_cons.mpr ⟨v_c65, List.forall_mem_cons.mpr ⟨v_c66, List.forall_mem_cons.mpr ⟨v_c67, List.forall_mem_cons.mpr ⟨v_c68, List.forall_mem_cons.mpr ⟨v_c69, List.forall_mem_cons.mpr ⟨v_c70, List.forall_mem_cons.mpr ⟨v_c71, List.forall_mem_cons.mpr ⟨v_c72, List.forall_mem_cons.mpr ⟨v_c73, List.forall_mem_cons.mpr ⟨v_c74, List.forall_mem_cons.mpr ⟨v_c75, List.forall_mem_cons.mpr ⟨v_c76, List.forall_mem_cons.mpr ⟨v_c77, List.forall_mem_cons.mpr ⟨v_c78, List.forall_mem_cons.mpr ⟨v_c79, List.forall_mem_cons.mpr ⟨v_c80, List.forall_mem_cons.mpr ⟨v_c81, List.forall_mem_cons.mpr ⟨v_c82, List.forall_mem_cons.mpr ⟨v_c83, List.forall_mem_cons.mpr ⟨v_c84, List.forall_mem_cons.mpr ⟨v_c85, List.forall_mem_cons.mpr ⟨v_c86, List.forall_mem_cons.mpr ⟨v_c87, List.forall_mem_cons.mpr ⟨v_c88, List.forall_mem_cons.mpr ⟨v_c89, List.forall_mem_cons.mpr ⟨v_c90, List.forall_mem_cons.mpr ⟨v_c91, List.forall_mem_cons.mpr ⟨v_c92, List.forall_mem_cons.mpr ⟨v_c93, List.forall_mem_cons.mpr ⟨v_c94, List.forall_mem_cons.mpr ⟨v_c95, List.forall_mem_cons.mpr ⟨v_c96, List.forall_mem_cons.mpr ⟨v_c97, List.forall_mem_cons.mpr ⟨v_c98, List.forall_mem_cons.mpr ⟨v_c99, List.forall_mem_cons.mpr ⟨v_c100, List.forall_mem_cons.mpr ⟨v_c101, List.forall_mem_cons.mpr ⟨v_c102, List.forall_mem_cons.mpr ⟨v_c103, List.forall_mem_cons.mpr ⟨v_c104, List.forall_mem_cons.mpr ⟨v_c105, List.forall_mem_cons.mpr ⟨v_c106, List.forall_mem_cons.mpr ⟨v_c107, List.forall_mem_cons.mpr ⟨v_c108, List.forall_mem_cons.mpr ⟨v_c109, List.forall_mem_cons.mpr ⟨v_c110, List.forall_mem_cons.mpr ⟨v_c111, List.forall_mem_cons.mpr ⟨v_c112, List.forall_mem_cons.mpr ⟨v_c113, List.forall_mem_cons.mpr ⟨v_c114, List.forall_mem_cons.mpr ⟨v_c115, List.forall_mem_cons.mpr ⟨v_c116, List.forall_mem_cons.mpr ⟨v_c117, List.forall_mem_cons.mpr ⟨v_c118, List.forall_mem_cons.mpr ⟨v_c119, fun _ h => absurd h List.not_mem_nil⟩⟩⟩⟩⟩⟩⟩⟩⟩⟩⟩⟩⟩⟩⟩⟩⟩⟩⟩⟩⟩⟩⟩⟩⟩⟩⟩⟩⟩⟩⟩⟩⟩⟩⟩⟩⟩⟩⟩⟩⟩⟩⟩⟩⟩⟩⟩⟩⟩⟩⟩⟩⟩⟩⟩⟩⟩⟩⟩⟩⟩⟩⟩⟩⟩⟩⟩⟩⟩⟩⟩⟩⟩⟩⟩⟩⟩⟩⟩⟩⟩⟩⟩⟩⟩⟩⟩⟩⟩⟩⟩⟩⟩⟩⟩⟩⟩⟩⟩⟩⟩⟩⟩⟩⟩⟩⟩⟩⟩⟩⟩⟩⟩⟩⟩⟩⟩⟩⟩⟩
theorem v_cal_1 : ∀ q ∈ c_calL_1, c_ok q := List.forall_mem_cons.mpr ⟨v_c120, List.forall_mem_cons.mpr ⟨v_c121, List.forall_mem_cons.mpr ⟨v_c122, List.forall_mem_cons.mpr ⟨v_c123, List.forall_mem_cons.mpr ⟨v_c124, List.forall_mem_cons.mpr ⟨v_c125, List.forall_mem_cons.mpr ⟨v_c126, List.forall_mem_cons.mpr ⟨v_c127, List.forall_mem_cons.mpr ⟨v_c128, List.forall_mem_cons.mpr ⟨v_c129, List.forall_mem_cons.mpr ⟨v_c130, List.forall_mem_cons.mpr ⟨v_c131, List.forall_mem_cons.mpr ⟨v_c132, List.forall_mem_cons.mpr ⟨v_c133, List.forall_mem_cons.mpr ⟨v_c134, List.forall_mem_cons.mpr ⟨v_c135, List.forall_mem_cons.mpr ⟨v_c136, List.forall_mem_cons.mpr ⟨v_c137, List.forall_mem_cons.mpr ⟨v_c138, List.forall_mem_cons.mpr ⟨v_c139, List.forall_mem_cons.mpr ⟨v_c140, List.forall_mem_cons.mpr ⟨v_c141, List.forall_mem_cons.mpr ⟨v_c142, List.forall_mem_cons.mpr ⟨v_c143, List.forall_mem_cons.mpr ⟨v_c144, List.forall_mem_cons.mpr ⟨v_c145, List.forall_mem_cons.mpr ⟨v_c146, List.forall_mem_cons.mpr ⟨v_c147, List.forall_mem_cons.mpr ⟨v_c148, List.forall_mem_cons.mpr ⟨v_c149, List.forall_mem_cons.mpr ⟨v_c150, List.forall_mem_cons.mpr ⟨v_c151, List.forall_mem_cons.mpr ⟨v_c152, List.forall_mem_cons.mpr ⟨v_c153, List.forall_mem_cons.mpr ⟨v_c154, List.forall_mem_cons.mpr ⟨v_c155, List.forall_mem_cons.mpr ⟨v_c156, List.forall_mem_cons.mpr ⟨v_c157, List.forall_mem_cons.mpr ⟨v_c158, List.forall_mem_cons.mpr ⟨v_c159, List.forall_mem_cons.mpr ⟨v_c160, List.forall_mem_cons.mpr ⟨v_c161, List.forall_mem_cons.mpr ⟨v_c162, List.forall_mem_cons.mpr ⟨v_c163, List.forall_mem_cons.mpr ⟨v_c164, List.forall_mem_cons.mpr ⟨v_c165, List.forall_mem_cons.mpr ⟨v_c166, List.forall_mem_cons.mpr ⟨v_c167, List.forall_mem_cons.mpr ⟨v_c168, List.forall_mem_cons.mpr ⟨v_c169, List.forall_mem_cons.mpr ⟨v_c170, List.forall_mem_cons.mpr ⟨v_c171, List.forall_mem_cons.mpr ⟨v_c172, List.forall_mem_cons.mpr ⟨v_c173, List.forall_mem_cons.mpr ⟨v_c174, List.forall_mem_cons.mpr ⟨v_c175, List.forall_mem_cons.mpr ⟨v_c176, List.forall_mem_cons.mpr ⟨v_c177, List.forall_mem_cons.mpr ⟨v_c178, List.forall_mem_cons.mpr ⟨v_c179, List.forall_mem_cons.mpr ⟨v_c180, List.forall_mem_cons.mpr ⟨v_c181, List.forall_mem_cons.mpr ⟨v_c182, List.forall_mem_cons.mpr ⟨v_c183, List.forall_mem_cons.mpr ⟨v_c184, List.forall_mem_cons.mpr ⟨v_c185, List.forall_mem_cons.mpr ⟨v_c186, List.forall_mem_cons.mpr ⟨v_c187, List.forall_mem_cons.mpr ⟨v_c188, List.forall_mem_cons.mpr ⟨v_c189, List.forall_mem_cons.mpr ⟨v_c190, List.forall_mem_cons.mpr ⟨v_c191, List.forall_mem_cons.mpr ⟨v_c192, List.forall_mem_cons.mpr ⟨v_c193, List.forall_mem_cons.mpr ⟨v_c194, List.forall_mem_cons.mpr ⟨v_c195, List.forall_mem_cons.mpr ⟨v_c196, List.forall_mem_cons.mpr ⟨v_c197, List.forall_mem_cons.mpr ⟨v_c198, List.forall_mem_cons.mpr ⟨v_c199, List.forall_mem_cons.mpr ⟨v_c200, List.forall_mem_cons.mpr ⟨v_c201, List.forall_mem_cons.mpr ⟨v_c202, List.forall_mem_cons.mpr ⟨v_c203, List.forall_mem_cons.mpr ⟨v_c204, List.forall_mem_cons.mpr ⟨v_c205, List.forall_mem_cons.mpr ⟨v_c206, List.forall_mem_cons.mpr ⟨v_c207, List.forall_mem_cons.mpr ⟨v_c208, List.forall_mem_cons.mpr ⟨v_c209, List.forall_mem_cons.mpr ⟨v_c210, List.forall_mem_cons.mpr ⟨v_c211, List.forall_mem_cons.mpr ⟨v_c212, List.forall_mem_cons.mpr ⟨v_c213, List.forall_mem_cons.mpr ⟨v_c214, List.forall_mem_cons.mpr ⟨v_c215, List.forall_mem_cons.mpr ⟨v_c216, List.forall_mem_cons.mpr ⟨v_c217, List.forall_mem_cons.mpr ⟨v_c218, List.forall_mem_cons.mpr ⟨v_c219, List.forall_mem_cons.mpr ⟨v_c220, List.forall_mem_cons.mpr ⟨v_c221, List.forall_mem_cons.mpr ⟨v_c222, List.forall_mem_cons.mpr ⟨v_c223, List.forall_mem_cons.mpr ⟨v_c224, List.forall_mem_cons.mpr ⟨v_c225, List.forall_mem_cons.mpr ⟨v_c226, List.forall_mem_cons.mpr ⟨v_c227, List.forall_mem_cons.mpr ⟨v_c228, List.forall_mem_cons.mpr ⟨v_c229, List.forall_mem_cons.mpr ⟨v_c230, List.forall_mem_cons.mpr ⟨v_c231, List.forall_mem_cons.mpr ⟨v_c232, List.forall_mem_cons.mpr ⟨v_c233, List.forall_mem_cons.mpr ⟨v_c234, List.forall_mem_cons.mpr ⟨v_c235, List.forall_mem_cons.mpr ⟨v_c236, List.forall_mem_cons.mpr ⟨v_c237, List.forall_mem_cons.mpr ⟨v_c238, List.forall_mem_cons.mpr ⟨v_c239, fun _ h => absurd h List.not_mem_nil⟩⟩⟩⟩⟩⟩⟩⟩⟩⟩⟩⟩⟩⟩⟩⟩⟩⟩⟩⟩⟩⟩⟩⟩⟩⟩⟩⟩⟩⟩⟩⟩⟩⟩⟩⟩⟩⟩⟩⟩⟩⟩⟩⟩⟩⟩⟩⟩⟩⟩⟩⟩⟩⟩⟩⟩⟩⟩⟩⟩⟩⟩⟩⟩⟩⟩⟩⟩⟩⟩⟩⟩⟩⟩⟩⟩⟩⟩⟩⟩⟩⟩⟩⟩⟩⟩⟩⟩⟩⟩⟩⟩⟩⟩⟩⟩⟩⟩⟩⟩⟩⟩⟩⟩⟩⟩⟩⟩⟩⟩⟩⟩⟩⟩⟩⟩⟩⟩⟩⟩
theorem v_cal_2 : ∀ q ∈ c_calL_2, c_ok q := List.forall_mem_cons.mpr ⟨v_c240, List.forall_mem_cons.mpr ⟨v_c241, List.forall_mem_cons.mpr ⟨v_c242, List.forall_mem_cons.mpr ⟨v_c243, List.forall_mem_cons.mpr ⟨v_c244, List.forall_mem_cons.mpr ⟨v_c245, List.forall_mem_cons.mpr ⟨v_c246, List.forall_mem_cons.mpr ⟨v_c247, List.forall_mem_cons.mpr ⟨v_c248, List.forall_mem_cons.mpr ⟨v_c249, List.forall_mem_cons.mpr ⟨v_c250, List.forall_mem_cons.mpr ⟨v_c251, List.forall_mem_cons.mpr ⟨v_c252, List.forall_mem_cons.mpr ⟨v_c253, List.forall_mem_cons.mpr ⟨v_c254, List.forall_mem_cons.mpr ⟨v_c255, List.forall_mem_cons.mpr ⟨v_c256, List.forall_mem_cons.mpr ⟨v_c257, List.forall_mem_cons.mpr ⟨v_c258, List.forall_mem_cons.mpr ⟨v_c259, List.forall_mem_cons.mpr ⟨v_c260, List.forall_mem_cons.mpr ⟨v_c261, List.forall_mem_cons.mpr ⟨v_c262, List.forall_mem_cons.mpr ⟨v_c263, List.forall_mem_cons.mpr ⟨v_c264, List.forall_mem_cons.mpr ⟨v_c265, List.forall_mem_cons.mpr ⟨v_c266, List.forall_mem_cons.mpr ⟨v_c267, List.forall_mem_cons.mpr ⟨v_c268, List.forall_mem_cons.mpr ⟨v_c269, List.forall_mem_cons.mpr ⟨v_c270, List.forall_mem_cons.mpr ⟨v_c271, List.forall_mem_cons.mpr ⟨v_c272, List.forall_mem_cons.mpr ⟨v_c273, List.forall_mem_cons.mpr ⟨v_c274, List.forall_mem_cons.mpr ⟨v_c275, List.forall_mem_cons.mpr ⟨v_c276, List.forall_mem_cons.mpr ⟨v_c277, List.forall_mem_cons.mpr ⟨v_c278, List.forall_mem_cons.mpr ⟨v_c279, List.forall_mem_cons.mpr ⟨v_c280, List.forall_mem_cons.mpr ⟨v_c281, List.forall_mem_cons.mpr ⟨v_c282, List.forall_mem_cons.mpr ⟨v_c283, List.forall_mem_cons.mpr ⟨v_c284, List.forall_mem_cons.mpr ⟨v_c285, List.forall_mem_cons.mpr ⟨v_c286, List.forall_mem_cons.mpr ⟨v_c287, List.forall_mem_cons.mpr ⟨v_c288, List.forall_mem_cons.mpr ⟨v_c289, List.forall_mem_cons.mpr ⟨v_c290, List.forall_mem_cons.mpr ⟨v_c291, List.forall_mem_cons.mpr ⟨v_c292, List.forall_mem_cons.mpr ⟨v_c293, List.forall_mem_cons.mpr ⟨v_c294, List.forall_mem_cons.mpr ⟨v_c295, List.forall_mem_cons.mpr ⟨v_c296, List.forall_mem_cons.mpr ⟨v_c297, List.forall_mem_cons.mpr ⟨v_c298, List.forall_mem_cons.mpr ⟨v_c299, List.forall_mem_cons.mpr ⟨v_c300, List.forall_mem_cons.mpr ⟨v_c301, List.forall_mem_cons.mpr ⟨v_c302, List.forall_mem_cons.mpr ⟨v_c303, List.forall_mem_cons.mpr ⟨v_c304, List.forall_mem_cons.mpr ⟨v_c305, List.forall_mem_cons.mpr ⟨v_c306, List.forall_mem_cons.mpr ⟨v_c307, List.forall_mem_cons.mpr ⟨v_c308, List.forall_mem_cons.mpr ⟨v_c309, List.forall_mem_cons.mpr ⟨v_c310, List.forall_mem_cons.mpr ⟨v_c311, List.forall_mem_cons.mpr ⟨v_c312, List.forall_mem_cons.mpr ⟨v_c313, List.forall_mem_cons.mpr ⟨v_c314, List.forall_mem_cons.mpr ⟨v_c315, List.forall_mem_cons.mpr ⟨v_c316, List.forall_mem_cons.mpr ⟨v_c317, List.forall_mem_cons.mpr ⟨v_c318, List.forall_mem_cons.mpr ⟨v_c319, List.forall_mem_cons.mpr ⟨v_c320, List.forall_mem_cons.mpr ⟨v_c321, List.forall_mem_cons.mpr ⟨v_c322, List.forall_mem_cons.mpr ⟨v_c323, List.forall_mem_cons.mpr ⟨v_c324, List.forall_mem_cons.mpr ⟨v_c325, List.forall_mem_cons.mpr ⟨v_c326, List.forall_mem_cons.mpr ⟨v_c327, List.forall_mem_cons.mpr ⟨v_c328, List.forall_mem_cons.mpr ⟨v_c329, List.forall_mem_cons.mpr ⟨v_c330, List.forall_mem_cons.mpr ⟨v_c331, List.forall_mem_cons.mpr ⟨v_c332, List.forall_mem_cons.mpr ⟨v_c333, List.forall_mem_cons.mpr ⟨v_c334, List.forall_mem_cons.mpr ⟨v_c335, List.forall_mem_cons.mpr ⟨v_c336, List.forall_mem_cons.mpr ⟨v_c337, List.forall_mem_cons.mpr ⟨v_c338, List.forall_mem_cons.mpr ⟨v_c339, List.forall_mem_cons.mpr ⟨v_c340, List.forall_mem_cons.mpr ⟨v_c341, List.forall_mem_cons.mpr ⟨v_c342, List.forall_mem_cons.mpr ⟨v_c343, List.forall_mem_cons.mpr ⟨v_c344, List.forall_mem_cons.mpr ⟨v_c345, List.forall_mem_cons.mpr ⟨v_c346, List.forall_mem_cons.mpr ⟨v_c347, List.forall_mem_cons.mpr ⟨v_c348, List.forall_mem_cons.mpr ⟨v_c349, List.forall_mem_cons.mpr ⟨v_c350, List.forall_mem_cons.mpr ⟨v_c351, List.forall_mem_cons.mpr ⟨v_c352, List.forall_mem_cons.mpr ⟨v_c353, List.forall_mem_cons.mpr ⟨v_c354, List.forall_mem_cons.mpr ⟨v_c355, List.forall_mem_cons.mpr ⟨v_c356, List.forall_mem_cons.mpr ⟨v_c357, List.forall_mem_cons.mpr ⟨v_c358, List.forall_mem_cons.mpr ⟨v_c359, fun _ h => absurd h List.not_mem_nil⟩⟩⟩⟩⟩⟩⟩⟩⟩⟩⟩⟩⟩⟩⟩⟩⟩⟩⟩⟩⟩⟩⟩⟩⟩⟩⟩⟩⟩⟩⟩⟩⟩⟩⟩⟩⟩⟩⟩⟩⟩⟩⟩⟩⟩⟩⟩⟩⟩⟩⟩⟩⟩⟩⟩⟩⟩⟩⟩⟩⟩⟩⟩⟩⟩⟩⟩⟩⟩⟩⟩⟩⟩⟩⟩⟩⟩⟩⟩⟩⟩⟩⟩⟩⟩⟩⟩⟩⟩⟩⟩⟩⟩⟩⟩⟩⟩⟩⟩⟩⟩⟩⟩⟩⟩⟩⟩⟩⟩⟩⟩⟩⟩⟩⟩⟩⟩⟩⟩⟩
theorem v_cal_3 : ∀ q ∈ c_calL_3, c_ok q := List.forall_mem_cons.mpr ⟨v_c360, List.forall_mem_cons.mpr ⟨v_c361, List.forall_mem_cons.mpr ⟨v_c362, List.forall_mem_cons.mpr ⟨v_c363, List.forall_mem_cons.mpr ⟨v_c364, List.forall_mem_cons.mpr ⟨v_c365, List.forall_mem_cons.mpr ⟨v_c366, List.forall_mem_cons.mpr ⟨v_c367, List.forall_mem_cons.mpr ⟨v_c368, List.forall_mem_cons.mpr ⟨v_c369, List.forall_mem_cons.mpr ⟨v_c370, List.forall_mem_cons.mpr ⟨v_c371, List.forall_mem_cons.mpr ⟨v_c372, List.forall_mem_cons.mpr ⟨v_c373, List.forall_mem_cons.mpr ⟨v_c374, List.forall_mem_cons.mpr ⟨v_c375, List.forall_mem_cons.mpr ⟨v_c376, List.forall_mem_cons.mpr ⟨v_c377, List.forall_mem_cons.mpr ⟨v_c378, List.forall_mem_cons.mpr ⟨v_c379, List.forall_mem_cons.mpr ⟨v_c380, List.forall_mem_cons.mpr ⟨v_c381, List.forall_mem_cons.mpr ⟨v_c382, List.forall_mem_cons.mpr ⟨v_c383, List.forall_mem_cons.mpr ⟨v_c384, List.forall_mem_cons.mpr ⟨v_c385, List.forall_mem_cons.mpr ⟨v_c386, List.forall_mem_cons.mpr ⟨v_c387, List.forall_mem_cons.mpr ⟨v_c388, List.forall_mem_cons.mpr ⟨v_c389, List.forall_mem_cons.mpr ⟨v_c390, List.forall_mem_cons.mpr ⟨v_c391, List.forall_mem_cons.mpr ⟨v_c392, List.forall_mem_cons.mpr ⟨v_c393, List.forall_mem_cons.mpr ⟨v_c394, List.forall_mem_cons.mpr ⟨v_c395, List.forall_mem_cons.mpr ⟨v_c396, List.forall_mem_cons.mpr ⟨v_c397, List.forall_mem_cons.mpr ⟨v_c398, List.forall_mem_cons.mpr ⟨v_c399, List.forall_mem_cons.mpr ⟨v_c400, List.forall_mem_cons.mpr ⟨v_c401, List.forall_mem_cons.mpr ⟨v_c402, List.forall_mem_cons.mpr ⟨v_c403, List.forall_mem_cons.mpr ⟨v_c404, List.forall_mem_cons.mpr ⟨v_c405, List.forall_mem_cons.mpr ⟨v_c406, List.forall_mem_cons.mpr ⟨v_c407, List.forall_mem_cons.mpr ⟨v_c408, fun _ h => absurd h List.not_mem_nil⟩⟩⟩⟩⟩⟩⟩⟩⟩⟩⟩⟩⟩⟩⟩⟩⟩⟩⟩⟩⟩⟩⟩⟩⟩⟩⟩⟩⟩⟩⟩⟩⟩⟩⟩⟩⟩⟩⟩⟩⟩⟩⟩⟩⟩⟩⟩⟩⟩
theorem v_cal : ∀ q ∈ c_calL, c_ok q := (List.forall_mem_append.mpr ⟨v_cal_0, (List.forall_mem_append.mpr ⟨v_cal_1, (List.forall_mem_append.mpr ⟨v_cal_2, v_cal_3⟩)⟩)⟩)
theorem c_cal_ok {o i y : Nat} (h : c_cal o i = some y) : c_ok (o * 10000 + i, y) := v_cal _ (a_lookup h)
def s_ok (q : Nat × AV) : Prop := (q.2 = a_i 1 ∧ Jvm.Cond.fieldLink (o_name (q.1 / 10000)) (q.1 % 10000) "java/lang/String" "COMPACT_STRINGS" "Z" ∈ w_all) ∨ (q.2 = a_x true ∧ Jvm.Cond.fieldLink (o_name (q.1 / 10000)) (q.1 % 10000) "jdk/internal/util/Preconditions" "SIOOBE_FORMATTER" "Ljava/util/function/BiFunction;" ∈ w_all)
set_option maxRecDepth 100000 in
theorem v_s0 : s_ok (140038, .inl 1) := Or.inl ⟨rfl, w_in (i := 642) ⟨rfl, rfl⟩⟩
set_option maxRecDepth 100000 in
theorem v_s1 : s_ok (141053, .inr (.inr (.inr (.inr (.inr true))))) := Or.inr ⟨rfl, w_in (i := 658) ⟨rfl, rfl⟩⟩
theorem v_sta : ∀ q ∈ c_staL, s_ok q := List.forall_mem_cons.mpr ⟨v_s0, List.forall_mem_cons.mpr ⟨v_s1, fun _ h => absurd h List.not_mem_nil⟩⟩
theorem c_sta_ok {o i : Nat} {x : AV} (h : c_sta o i = some x) : s_ok (o * 10000 + i, x) := v_sta _ (a_lookup h)
theorem c_str_lt : ∀ q ∈ c_strL, 0 < q.2 ∧ q.2 < 17 := by decide
theorem x_nest_B : ∀ q ∈ x_nest, Jvm.Cond.methodLinkNest (o_name (q.1 / 10000)) (q.1 % 10000) (m_name q.2.1) q.2.2 ∈ x_B := by decide +kernel
