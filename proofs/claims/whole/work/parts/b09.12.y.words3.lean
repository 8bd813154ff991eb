/-! ===== exceptions, handlers, checks of the code tables (by wip/whole/gen_valid3.py) ===== -/
def x_txt : List (Nat × String) := [(69, "not so many bytes in the buffer"), (80, "the text has an error"), (412, "no text was loaded"), (155, "no such count"), (414, "no such listener"), (416, "no such slot"), (420, "out of range"), (178, "not so many on the air"), (204, "no such property"), (422, "no such correction"), (351, "not so many bytes in the text"), (424, "no number is left"), (429, "no room on the air"), (384, "the listener has its gaps"), (389, "no such gap"), (401, "no change is left to undo"), (418, "no such slot for saving"), (410, "nothing is saved there")]
def x_ic (e : Nat) : Nat := [0, 403, 71, 82].getD e 0
def x_sup : List String := ["java/lang/RuntimeException", "java/lang/Exception"]
def x_B : List Jvm.Cond := [(Jvm.Cond.castable "java/lang/IndexOutOfBoundsException" "java/lang/IndexOutOfBoundsException"), (Jvm.Cond.castable "java/lang/IllegalArgumentException" "java/lang/IllegalArgumentException"), (Jvm.Cond.castable "java/lang/IllegalStateException" "java/lang/IllegalStateException"), (Jvm.Cond.declares ({ cls := "java/lang/RuntimeException", name := "<init>", desc := "()V" } : Jvm.MethodName)), (Jvm.Cond.declares ({ cls := "java/lang/RuntimeException", name := "<init>", desc := "(Ljava/lang/String;)V" } : Jvm.MethodName)), (Jvm.Cond.declares ({ cls := "java/lang/Exception", name := "<init>", desc := "()V" } : Jvm.MethodName)), (Jvm.Cond.declares ({ cls := "java/lang/Exception", name := "<init>", desc := "(Ljava/lang/String;)V" } : Jvm.MethodName)), (Jvm.Cond.declares ({ cls := "java/lang/Throwable", name := "<init>", desc := "()V" } : Jvm.MethodName)), (Jvm.Cond.declares ({ cls := "java/lang/Throwable", name := "<init>", desc := "(Ljava/lang/String;)V" } : Jvm.MethodName)), (Jvm.Cond.methodLinkNest "BookmobileRadio" (9 : Nat) ({ cls := "BookmobileRadio$Reader", name := "<init>", desc := "()V" } : Jvm.MethodName) "BookmobileRadio"), (Jvm.Cond.methodLinkNest "BookmobileRadio$Radio" (11 : Nat) ({ cls := "BookmobileRadio$Told", name := "<init>", desc := "()V" } : Jvm.MethodName) "BookmobileRadio"), (Jvm.Cond.methodLinkNest "BookmobileRadio$Air" (17 : Nat) ({ cls := "BookmobileRadio$Signal", name := "<init>", desc := "()V" } : Jvm.MethodName) "BookmobileRadio"), (Jvm.Cond.methodLinkNest "BookmobileRadio$Radio" (35 : Nat) ({ cls := "BookmobileRadio$Listener", name := "<init>", desc := "()V" } : Jvm.MethodName) "BookmobileRadio"), (Jvm.Cond.methodLinkNest "BookmobileRadio" (43 : Nat) ({ cls := "BookmobileRadio$Merging", name := "<init>", desc := "()V" } : Jvm.MethodName) "BookmobileRadio"), (Jvm.Cond.methodLinkNest "BookmobileRadio" (50 : Nat) ({ cls := "BookmobileRadio$Text", name := "<init>", desc := "()V" } : Jvm.MethodName) "BookmobileRadio")]
theorem x_B_form : ∀ w ∈ x_B, (∃ C T, w = .castable C T) ∨ (∃ y, w = .declares y) ∨ (∃ a b y d, w = .methodLinkNest a b y d) := List.forall_mem_cons.mpr ⟨Or.inl ⟨_, _, rfl⟩, List.forall_mem_cons.mpr ⟨Or.inl ⟨_, _, rfl⟩, List.forall_mem_cons.mpr ⟨Or.inl ⟨_, _, rfl⟩, List.forall_mem_cons.mpr ⟨Or.inr (Or.inl ⟨_, rfl⟩), List.forall_mem_cons.mpr ⟨Or.inr (Or.inl ⟨_, rfl⟩), List.forall_mem_cons.mpr ⟨Or.inr (Or.inl ⟨_, rfl⟩), List.forall_mem_cons.mpr ⟨Or.inr (Or.inl ⟨_, rfl⟩), List.forall_mem_cons.mpr ⟨Or.inr (Or.inl ⟨_, rfl⟩), List.forall_mem_cons.mpr ⟨Or.inr (Or.inl ⟨_, rfl⟩), List.forall_mem_cons.mpr ⟨Or.inr (Or.inr ⟨_, _, _, _, rfl⟩), List.forall_mem_cons.mpr ⟨Or.inr (Or.inr ⟨_, _, _, _, rfl⟩), List.forall_mem_cons.mpr ⟨Or.inr (Or.inr ⟨_, _, _, _, rfl⟩), List.forall_mem_cons.mpr ⟨Or.inr (Or.inr ⟨_, _, _, _, rfl⟩), List.forall_mem_cons.mpr ⟨Or.inr (Or.inr ⟨_, _, _, _, rfl⟩), List.forall_mem_cons.mpr ⟨Or.inr (Or.inr ⟨_, _, _, _, rfl⟩), fun _ h => absurd h List.not_mem_nil⟩⟩⟩⟩⟩⟩⟩⟩⟩⟩⟩⟩⟩⟩⟩
def x_AO : List String := ["BookmobileRadio$Signal", "BookmobileRadio$Listener", "BookmobileRadio$Radio"]
def x_nc : List (String × String) := [(x_name 1, x_name 2), (x_name 1, x_name 3), (x_name 2, x_name 1), (x_name 2, x_name 3), (x_name 3, x_name 1), (x_name 3, x_name 2)]
theorem x_at_1 : ∀ w ∈ (vx_atS RX10 (x_ic 1) (x_name 1) x_sup).filter goodWord, w ∈ w_all := by decide +kernel
theorem x_an_1 : ∀ w ∈ (vx_atS RX10 (x_ic 1) (x_name 1) x_sup).filter (fun w => !goodWord w), w ∈ x_B := by decide +kernel
theorem x_ao_1 : ∀ ik, ∀ w ∈ Jvm.Cond.classLink RX10 ik (x_name 1) :: Jvm.Cond.initialized (x_name 1) :: vx_atS RX10 (x_ic 1) (x_name 1) x_sup, vx_ot w = true := fun ik => List.forall_mem_cons.mpr ⟨rfl, List.forall_mem_cons.mpr ⟨rfl, by decide +kernel⟩⟩
theorem x_at_2 : ∀ w ∈ (vx_atS RX10 (x_ic 2) (x_name 2) x_sup).filter goodWord, w ∈ w_all := by decide +kernel
theorem x_an_2 : ∀ w ∈ (vx_atS RX10 (x_ic 2) (x_name 2) x_sup).filter (fun w => !goodWord w), w ∈ x_B := by decide +kernel
theorem x_ao_2 : ∀ ik, ∀ w ∈ Jvm.Cond.classLink RX10 ik (x_name 2) :: Jvm.Cond.initialized (x_name 2) :: vx_atS RX10 (x_ic 2) (x_name 2) x_sup, vx_ot w = true := fun ik => List.forall_mem_cons.mpr ⟨rfl, List.forall_mem_cons.mpr ⟨rfl, by decide +kernel⟩⟩
theorem x_at_3 : ∀ w ∈ (vx_atS RX10 (x_ic 3) (x_name 3) x_sup).filter goodWord, w ∈ w_all := by decide +kernel
theorem x_an_3 : ∀ w ∈ (vx_atS RX10 (x_ic 3) (x_name 3) x_sup).filter (fun w => !goodWord w), w ∈ x_B := by decide +kernel
theorem x_ao_3 : ∀ ik, ∀ w ∈ Jvm.Cond.classLink RX10 ik (x_name 3) :: Jvm.Cond.initialized (x_name 3) :: vx_atS RX10 (x_ic 3) (x_name 3) x_sup, vx_ot w = true := fun ik => List.forall_mem_cons.mpr ⟨rfl, List.forall_mem_cons.mpr ⟨rfl, by decide +kernel⟩⟩
def a_okX (m pc : Nat) (i : Instr) : Bool := match i with
  | .new x => match c_new (m_own m) x with
    | some (.inr e) => decide (m_own m = 9) && decide (1 ≤ e) && decide (e ≤ 3) && match a_code m (pc + 3), a_code m (pc + 4) with
      | some (.dup, 1), some (.ldc is, 2) => (x_txt.lookup is).isSome && decide (a_code m (pc + 6) = some (.invokespecial (x_ic e), 3)) && decide (a_code m (pc + 9) = some (.athrow, 1))
      | some (.dup, 1), some (.ldc_w is, 3) => (x_txt.lookup is).isSome && decide (a_code m (pc + 7) = some (.invokespecial (x_ic e), 3)) && decide (a_code m (pc + 10) = some (.athrow, 1))
      | _, _ => false
    | _ => true
  | _ => true
def a_okR (m y : Nat) : Bool := if y < 1000 then decide (m_fr y + 1 ≤ m_fr m) && decide (8 + (m_maxL y + 11) + m_lo y ≤ m_lo m) else decide (1 ≤ m_fr m) && decide (40 ≤ m_lo m)
def a_okJ (m : Nat) (i : Instr) : Bool := match i with
  | .getfield x => decide (x < 10000)
  | .putfield x => decide (x < 10000) && match c_fld (m_own m) x with
    | some (c1, k, _, fin) => !fin || decide (o_name (m_own m) = (k_T (c1 - 1) k).1)
    | none => true
  | .getstatic x => decide (x < 10000)
  | .ldc x => decide (x < 10000)
  | .ldc_w x => decide (x < 10000)
  | .ldc2_w x => decide (x < 10000)
  | .new x => decide (x < 10000) && match c_new (m_own m) x with
    | some (.inr _) => decide (6 ≤ m_fr m) && decide (90 ≤ m_lo m)
    | _ => true
  | .anewarray x => decide (x < 10000) && match c_new (m_own m) x with
    | some (.inl c1) => a_arr (c1 + 30) && decide (k_name c1 ∈ x_AO)
    | _ => true
  | .invokevirtual x => decide (x < 10000) && match c_cal (m_own m) x with
    | some y => decide (y < 1000) && decide (m_kind y = 1) && a_okR m y && decide (m_tabl y = false)
    | none => true
  | .invokespecial x => decide (x < 10000) && match c_cal (m_own m) x with
    | some y => ((decide (y < 1000) && decide (m_kind y = 2)) || decide (y = 1000)) && a_okR m y
    | none => true
  | .invokestatic x => decide (x < 10000) && match c_cal (m_own m) x with
    | some y => ((decide (y < 1000) && decide (m_kind y = 0)) || decide (1001 ≤ y)) && a_okR m y
    | none => true
  | _ => true
theorem v_okJ_0 : ∀ m, m < 40 → (m_codeL.getD (0 + m) []).all (fun q => a_okJ (0 + m) q.2.1 && a_okX (0 + m) q.1 q.2.1) = true := by decide +kernel
theorem v_okJ_1 : ∀ m, m < 40 → (m_codeL.getD (40 + m) []).all (fun q => a_okJ (40 + m) q.2.1 && a_okX (40 + m) q.1 q.2.1) = true := by decide +kernel
theorem v_okJ_2 : ∀ m, m < 40 → (m_codeL.getD (80 + m) []).all (fun q => a_okJ (80 + m) q.2.1 && a_okX (80 + m) q.1 q.2.1) = true := by decide +kernel
theorem v_okJ_3 : ∀ m, m < 40 → (m_codeL.getD (120 + m) []).all (fun q => a_okJ (120 + m) q.2.1 && a_okX (120 + m) q.1 q.2.1) = true := by decide +kernel
theorem v_okJ_4 : ∀ m, m < 40 → (m_codeL.getD (160 + m) []).all (fun q => a_okJ (160 + m) q.2.1 && a_okX (160 + m) q.1 q.2.1) = true := by decide +kernel
theorem v_okJ_5 : ∀ m, m < 40 → (m_codeL.getD (200 + m) []).all (fun q => a_okJ (200 + m) q.2.1 && a_okX (200 + m) q.1 q.2.1) = true := by decide +kernel
theorem v_okJ_6 : ∀ m, m < 40 → (m_codeL.getD (240 + m) []).all (fun q => a_okJ (240 + m) q.2.1 && a_okX (240 + m) q.1 q.2.1) = true := by decide +kernel
theorem v_okJ_7 : ∀ m, m < 40 → (m_codeL.getD (280 + m) []).all (fun q => a_okJ (280 + m) q.2.1 && a_okX (280 + m) q.1 q.2.1) = true := by decide +kernel
theorem v_okJ_8 : ∀ m, m < 39 → (m_codeL.getD (320 + m) []).all (fun q => a_okJ (320 + m) q.2.1 && a_okX (320 + m) q.1 q.2.1) = true := by decide +kernel
theorem a_codeJ {m pc : Nat} {i : Instr} {len : Nat} (h : a_code m pc = some (i, len)) : a_okJ m i = true ∧ a_okX m pc i = true := by
  have hm := a_code_lt h
  have key : (m_codeL.getD m []).all (fun q => a_okJ m q.2.1 && a_okX m q.1 q.2.1) = true := by
    by_cases h0 : m < 40
    · obtain ⟨q, rfl⟩ : ∃ q, m = 0 + q := ⟨m - 0, by omega⟩
      exact v_okJ_0 q (by omega)
    by_cases h40 : m < 80
    · obtain ⟨q, rfl⟩ : ∃ q, m = 40 + q := ⟨m - 40, by omega⟩
      exact v_okJ_1 q (by omega)
    by_cases h80 : m < 120
    · obtain ⟨q, rfl⟩ : ∃ q, m = 80 + q := ⟨m - 80, by omega⟩
      exact v_okJ_2 q (by omega)
    by_cases h120 : m < 160
    · obtain ⟨q, rfl⟩ : ∃ q, m = 120 + q := ⟨m - 120, by omega⟩
      exact v_okJ_3 q (by omega)
    by_cases h160 : m < 200
    · obtain ⟨q, rfl⟩ : ∃ q, m = 160 + q := ⟨m - 160, by omega⟩
      exact v_okJ_4 q (by omega)
    by_cases h200 : m < 240
    · obtain ⟨q, rfl⟩ : ∃ q, m = 200 + q := ⟨m - 200, by omega⟩
      exact v_okJ_5 q (by omega)
    by_cases h240 : m < 280
    · obtain ⟨q, rfl⟩ : ∃ q, m = 240 + q := ⟨m - 240, by omega⟩
      exact v_okJ_6 q (by omega)
    by_cases h280 : m < 320
    · obtain ⟨q, rfl⟩ : ∃ q, m = 280 + q := ⟨m - 280, by omega⟩
      exact v_okJ_7 q (by omega)
    by_cases h320 : m < 360
    · obtain ⟨q, rfl⟩ : ∃ q, m = 320 + q := ⟨m - 320, by omega⟩
      exact v_okJ_8 q (by omega)
    exact absurd hm (by omega)
  have h1 := List.all_eq_true.mp key _ (a_lookup h)
  simpa using h1
def f_ret (r : Nat) (t : Option FieldType) : Bool := match t with
  | none => r == 0
  | some .int => r == 1
  | some .boolean => r == 2
  | some .long => r == 3
  | some .float => r == 4
  | some .double => r == 5
  | some (.object _) => r == 6
  | some (.array _) => r == 6
  | some .char => r == 7
  | some .byte => r == 8
  | _ => false
def x_cls (i : Nat) : Nat := match c_new 12 i with
  | some (.inr e) => e
  | _ => 0
def m_okM (m : Nat) : Bool := f_ret (m_ret m) (m_retT m) && decide ((m_handL.lookup m).getD [] = (m_hh m).map (fun q => (q.1, q.2.1, q.2.2.1, x_cls q.2.2.2))) && decide ((m_handL.lookup m).isSome = !(m_hh m).isEmpty) && ((m_hh m).all (fun q => decide (m_own m = 12) && decide (1 ≤ x_cls q.2.2.2) && decide (x_cls q.2.2.2 ≤ 3) && decide (q.2.2.2 < 10000) && decide (q.2.2.2 ≠ 0))) && decide ((m_name m).cls = o_name (m_own m)) && ((!m_init m) || decide ((m_name m).name = "<init>")) && plainName (m_name m).cls
theorem m_ok {m : Nat} (h : m < 359) : m_okM m = true := (by decide +kernel : ∀ m, m < 359 → m_okM m = true) m h
