/-! ===== calls (by wip/whole/gen_valid2.py) ===== -/
def x_nest : List (Nat × Nat × String) := [(90009, 52, "BookmobileRadio"), (40011, 78, "BookmobileRadio"), (17, 67, "BookmobileRadio"), (40035, 14, "BookmobileRadio"), (90043, 22, "BookmobileRadio"), (90050, 73, "BookmobileRadio")]
def c_ok (q : Nat × Nat) : Prop :=
  (q.2 < 1000 ∧ q.2 < 359 ∧ q.2 ≠ 350 ∧ Jvm.Cond.initialized (m_name q.2).cls ∈ w_all ∧ (plainName (m_name q.2).cls = true) ∧ ((m_name q.2).cls ≠ "java/lang/invoke/MethodHandle" ∧ (m_name q.2).cls ≠ "java/lang/invoke/VarHandle") ∧
    ((m_kind q.2 = 0 ∧ (parseMethodDescriptor (m_name q.2).desc).map (fun d => d.parameters.length) = some (m_nargs q.2) ∧ Jvm.Cond.methodLink (o_name (q.1 / 10000)) (q.1 % 10000) (m_name q.2) ∈ w_all ∧ Jvm.Cond.static (m_name q.2) ∈ w_all) ∨
     (m_kind q.2 = 1 ∧ (parseMethodDescriptor (m_name q.2).desc).map (fun d => d.parameters.length + 1) = some (m_nargs q.2) ∧ Jvm.Cond.methodLink (o_name (q.1 / 10000)) (q.1 % 10000) (m_name q.2) ∈ w_all ∧ Jvm.Cond.instanceMethod (m_name q.2) ∈ w_all ∧ Jvm.Cond.selects (m_name q.2).cls (m_name q.2) (m_name q.2) ∈ w_all ∧ ((1 ≤ m_recv q.2 ∧ m_recv q.2 ≤ 11 ∧ (m_name q.2).cls = k_name (m_recv q.2 - 1)) ∨ (m_recv q.2 = 25 ∧ (m_name q.2).cls = "java/lang/String"))) ∨
     (m_kind q.2 = 2 ∧ (m_name q.2).name = "<init>" ∧ m_retT q.2 = none ∧ (parseMethodDescriptor (m_name q.2).desc).map (fun d => d.parameters.length + 1) = some (m_nargs q.2) ∧ Jvm.Cond.instanceMethod (m_name q.2) ∈ w_all ∧ (Jvm.Cond.methodLink (o_name (q.1 / 10000)) (q.1 % 10000) (m_name q.2) ∈ w_all ∨ ∃ host, (q.1, q.2, host) ∈ x_nest)))) ∨
  (q.2 = 1000 ∧ Jvm.Cond.methodLink (o_name (q.1 / 10000)) (q.1 % 10000) objectInit ∈ w_all) ∨ (q.2 = 1001 ∧ Jvm.Cond.methodLink (o_name (q.1 / 10000)) (q.1 % 10000) arraycopyName ∈ w_all) ∨
  (q.2 = 1002 ∧ Jvm.Cond.methodLink (o_name (q.1 / 10000)) (q.1 % 10000) Lib.Math.max.name ∈ w_all) ∨ (q.2 = 1003 ∧ Jvm.Cond.methodLink (o_name (q.1 / 10000)) (q.1 % 10000) Lib.Math.min.name ∈ w_all)
theorem c_cal_ok {o i y : Nat} (h : c_cal o i = some y) : c_ok (o * 10000 + i, y) := sorry
def s_ok (q : Nat × AV) : Prop := (q.2 = a_i 1 ∧ Jvm.Cond.fieldLink (o_name (q.1 / 10000)) (q.1 % 10000) "java/lang/String" "COMPACT_STRINGS" "Z" ∈ w_all) ∨ (q.2 = a_x true ∧ Jvm.Cond.fieldLink (o_name (q.1 / 10000)) (q.1 % 10000) "jdk/internal/util/Preconditions" "SIOOBE_FORMATTER" "Ljava/util/function/BiFunction;" ∈ w_all)
theorem c_sta_ok {o i : Nat} {x : AV} (h : c_sta o i = some x) : s_ok (o * 10000 + i, x) := sorry
theorem c_str_lt : ∀ q ∈ c_strL, 0 < q.2 ∧ q.2 < 17 := by decide
theorem x_nest_B : ∀ q ∈ x_nest, Jvm.Cond.methodLinkNest (o_name (q.1 / 10000)) (q.1 % 10000) (m_name q.2.1) q.2.2 ∈ x_B := sorry
