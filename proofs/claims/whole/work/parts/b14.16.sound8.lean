/-! ===== the plain instructions ===== -/
def a_plain (m : Nat) (i : Instr) : Bool := match i with
  | .ireturn | .lreturn | .freturn | .dreturn | .areturn | .return_ => false
  | .invokevirtual _ | .invokespecial _ | .invokestatic _ => false
  | .new n => match c_new (m_own m) n with
    | some (.inr _) => false
    | _ => true
  | _ => true
section SP
variable {p : Program} {l : Launch} {e : Env} {R : Room} {s : State} {mi : MethodId} {args : Array Value} {below : List Frame} {meth : Method} {c : Code} {Z : State → Prop} {D : va_G} {tA : Nat → ClassId} {bs : Nat} {aS L0 : Nat → Nat} {n0 mc ms cE sE : Nat} {m pc : Nat} {ls st : List AV} {σ : AS} {q : SR}
theorem g_plain {i : Instr} {len : Nat} (F : a_Fx p l R s mi args meth c bs aS m) (hmc : mc ≤ R.cells) (hms : ms ≤ R.slots) (hc : a_code m pc = some (i, len)) (hp : a_plain m i = true) (hs : a_step m pc i len ls st σ = some q) (hL : ∀ pc1 ls1 st1 σ1, q = .inl (pc1, ls1, st1, σ1) → σ1.2.2.2.2.1 ≤ cE ∧ σ1.2.2.2.2.2 ≤ sE) (hK : ∀ pc1 ls1 st1 σ1, q = .inl (pc1, ls1, st1, σ1) → a_Gd p l e R s mi args below meth c Z D tA bs aS L0 n0 mc ms cE sE pc1 ls1 st1 σ1) : a_Gd p l e R s mi args below meth c Z D tA bs aS L0 n0 mc ms cE sE pc ls st σ := by
  obtain ⟨hd, ho⟩ := a_code_dec hc
  obtain ⟨hj, hj2⟩ := a_codeJ hc
  obtain ⟨hx, hb, hml, -, -, hown, hts, hin, -, hZ, -⟩ := id F
  have hl : a_len i = 0 ∨ len = a_len i := by
    have h1 := ho
    unfold a_okI at h1
    rw [Bool.and_eq_true, Bool.or_eq_true, decide_eq_true_eq, decide_eq_true_eq] at h1
    exact h1.1
  clear hc
  cases i with
  | iconst n =>
    obtain rfl : len = 1 := hl.resolve_left (by show ¬ (1 : Nat) = 0; decide)
    exact g_iconst hx hb ho hd hs hK
  | bipush n =>
    obtain rfl : len = 2 := hl.resolve_left (by show ¬ (2 : Nat) = 0; decide)
    exact g_bipush hx hb ho hd hs hK
  | sipush n =>
    obtain rfl : len = 3 := hl.resolve_left (by show ¬ (3 : Nat) = 0; decide)
    exact g_sipush hx hb ho hd hs hK
  | lconst n =>
    obtain rfl : len = 1 := hl.resolve_left (by show ¬ (1 : Nat) = 0; decide)
    exact g_lconst hx hb hd hs hK
  | fconst n =>
    obtain rfl : len = 1 := hl.resolve_left (by show ¬ (1 : Nat) = 0; decide)
    exact g_fconst hx hb hd hs hK
  | dconst n =>
    obtain rfl : len = 1 := hl.resolve_left (by show ¬ (1 : Nat) = 0; decide)
    exact g_dconst hx hb hd hs hK
  | iload_n n =>
    obtain rfl : len = 1 := hl.resolve_left (by show ¬ (1 : Nat) = 0; decide)
    exact g_iload_n hx hb hd hs hK
  | iload n =>
    obtain rfl : len = 2 := hl.resolve_left (by show ¬ (2 : Nat) = 0; decide)
    exact g_iload hx hb hd hs hK
  | lload_n n =>
    obtain rfl : len = 1 := hl.resolve_left (by show ¬ (1 : Nat) = 0; decide)
    exact g_lload_n hx hb hd hs hK
  | lload n =>
    obtain rfl : len = 2 := hl.resolve_left (by show ¬ (2 : Nat) = 0; decide)
    exact g_lload hx hb hd hs hK
  | fload n =>
    obtain rfl : len = 2 := hl.resolve_left (by show ¬ (2 : Nat) = 0; decide)
    exact g_fload hx hb hd hs hK
  | dload n =>
    obtain rfl : len = 2 := hl.resolve_left (by show ¬ (2 : Nat) = 0; decide)
    exact g_dload hx hb hd hs hK
  | aload_n n =>
    obtain rfl : len = 1 := hl.resolve_left (by show ¬ (1 : Nat) = 0; decide)
    exact g_aload_n hx hb hd hs hK
  | aload n =>
    obtain rfl : len = 2 := hl.resolve_left (by show ¬ (2 : Nat) = 0; decide)
    exact g_aload hx hb hd hs hK
  | istore_n n =>
    obtain rfl : len = 1 := hl.resolve_left (by show ¬ (1 : Nat) = 0; decide)
    exact g_istore_n hx hb hd hs hK
  | istore n =>
    obtain rfl : len = 2 := hl.resolve_left (by show ¬ (2 : Nat) = 0; decide)
    exact g_istore hx hb hd hs hK
  | astore_n n =>
    obtain rfl : len = 1 := hl.resolve_left (by show ¬ (1 : Nat) = 0; decide)
    exact g_astore_n hx hb hd hs hK
  | astore n =>
    obtain rfl : len = 2 := hl.resolve_left (by show ¬ (2 : Nat) = 0; decide)
    exact g_astore hx hb hd hs hK
  | fstore n =>
    obtain rfl : len = 2 := hl.resolve_left (by show ¬ (2 : Nat) = 0; decide)
    exact g_fstore hx hb hd hs hK
  | dstore n =>
    obtain rfl : len = 2 := hl.resolve_left (by show ¬ (2 : Nat) = 0; decide)
    exact g_dstore hx hb hd hs hK
  | iinc n z =>
    obtain rfl : len = 3 := hl.resolve_left (by show ¬ (3 : Nat) = 0; decide)
    exact g_iinc hx hb hd hs hK
  | pop =>
    obtain rfl : len = 1 := hl.resolve_left (by show ¬ (1 : Nat) = 0; decide)
    exact g_pop hx hb hd hs hK
  | dup =>
    obtain rfl : len = 1 := hl.resolve_left (by show ¬ (1 : Nat) = 0; decide)
    exact g_dup hx hb hd hs hK
  | dup2 =>
    obtain rfl : len = 1 := hl.resolve_left (by show ¬ (1 : Nat) = 0; decide)
    exact g_dup2 hx hb hd hs hK
  | iadd =>
    obtain rfl : len = 1 := hl.resolve_left (by show ¬ (1 : Nat) = 0; decide)
    exact g_iadd hx hb hd hs hK
  | isub =>
    obtain rfl : len = 1 := hl.resolve_left (by show ¬ (1 : Nat) = 0; decide)
    exact g_isub hx hb hd hs hK
  | imul =>
    obtain rfl : len = 1 := hl.resolve_left (by show ¬ (1 : Nat) = 0; decide)
    exact g_imul hx hb hd hs hK
  | iand =>
    obtain rfl : len = 1 := hl.resolve_left (by show ¬ (1 : Nat) = 0; decide)
    exact g_iand hx hb hd hs hK
  | ior =>
    obtain rfl : len = 1 := hl.resolve_left (by show ¬ (1 : Nat) = 0; decide)
    exact g_ior hx hb hd hs hK
  | ishl =>
    obtain rfl : len = 1 := hl.resolve_left (by show ¬ (1 : Nat) = 0; decide)
    exact g_ishl hx hb hd hs hK
  | ishr =>
    obtain rfl : len = 1 := hl.resolve_left (by show ¬ (1 : Nat) = 0; decide)
    exact g_ishr hx hb hd hs hK
  | iushr =>
    obtain rfl : len = 1 := hl.resolve_left (by show ¬ (1 : Nat) = 0; decide)
    exact g_iushr hx hb hd hs hK
  | idiv =>
    obtain rfl : len = 1 := hl.resolve_left (by show ¬ (1 : Nat) = 0; decide)
    exact g_idiv hx hb hd hs hK
  | irem =>
    obtain rfl : len = 1 := hl.resolve_left (by show ¬ (1 : Nat) = 0; decide)
    exact g_irem hx hb hd hs hK
  | ladd =>
    obtain rfl : len = 1 := hl.resolve_left (by show ¬ (1 : Nat) = 0; decide)
    exact g_ladd hx hb hd hs hK
  | lmul =>
    obtain rfl : len = 1 := hl.resolve_left (by show ¬ (1 : Nat) = 0; decide)
    exact g_lmul hx hb hd hs hK
  | i2l =>
    obtain rfl : len = 1 := hl.resolve_left (by show ¬ (1 : Nat) = 0; decide)
    exact g_i2l hx hb hd hs hK
  | i2c =>
    obtain rfl : len = 1 := hl.resolve_left (by show ¬ (1 : Nat) = 0; decide)
    exact g_i2c hx hb hd hs hK
  | i2f =>
    obtain rfl : len = 1 := hl.resolve_left (by show ¬ (1 : Nat) = 0; decide)
    exact g_i2f hx hb hd hs hK
  | i2d =>
    obtain rfl : len = 1 := hl.resolve_left (by show ¬ (1 : Nat) = 0; decide)
    exact g_i2d hx hb hd hs hK
  | fdiv =>
    obtain rfl : len = 1 := hl.resolve_left (by show ¬ (1 : Nat) = 0; decide)
    exact g_fdiv hx hb hd hs hK
  | ddiv =>
    obtain rfl : len = 1 := hl.resolve_left (by show ¬ (1 : Nat) = 0; decide)
    exact g_ddiv hx hb hd hs hK
  | f2d =>
    obtain rfl : len = 1 := hl.resolve_left (by show ¬ (1 : Nat) = 0; decide)
    exact g_f2d hx hb hd hs hK
  | lcmp =>
    obtain rfl : len = 1 := hl.resolve_left (by show ¬ (1 : Nat) = 0; decide)
    exact g_lcmp hx hb hd hs hK
  | fcmp op =>
    obtain rfl : len = 1 := hl.resolve_left (by show ¬ (1 : Nat) = 0; decide)
    exact g_fcmp hx hb hd hs hK
  | dcmp op =>
    obtain rfl : len = 1 := hl.resolve_left (by show ¬ (1 : Nat) = 0; decide)
    exact g_dcmp hx hb hd hs hK
  | ifCond cd o =>
    obtain rfl : len = 3 := hl.resolve_left (by show ¬ (3 : Nat) = 0; decide)
    cases cd
    · exact g_if_eq hx hb ho hd hs hK
    · exact g_if_ne hx hb ho hd hs hK
    · exact g_if_lt hx hb ho hd hs hK
    · exact g_if_ge hx hb ho hd hs hK
    · exact g_if_gt hx hb ho hd hs hK
    · exact g_if_le hx hb ho hd hs hK
  | if_icmp cd o =>
    obtain rfl : len = 3 := hl.resolve_left (by show ¬ (3 : Nat) = 0; decide)
    cases cd
    · exact g_ic_eq hx hb ho hd hs hK
    · exact g_ic_ne hx hb ho hd hs hK
    · exact g_ic_lt hx hb ho hd hs hK
    · exact g_ic_ge hx hb ho hd hs hK
    · exact g_ic_gt hx hb ho hd hs hK
    · exact g_ic_le hx hb ho hd hs hK
  | goto o =>
    obtain rfl : len = 3 := hl.resolve_left (by show ¬ (3 : Nat) = 0; decide)
    exact g_goto hx hb ho hd hs hK
  | tableswitch d lo hi os => exact g_table hx hb ho hd hs hK
  | getfield n =>
    obtain rfl : len = 3 := hl.resolve_left (by show ¬ (3 : Nat) = 0; decide)
    exact g_getfield hx hb hown hts (of_decide_eq_true hj) hd hs hK
  | putfield n =>
    obtain rfl : len = 3 := hl.resolve_left (by show ¬ (3 : Nat) = 0; decide)
    simp only [a_okJ, Bool.and_eq_true, decide_eq_true_eq] at hj
    refine g_putfield hx hb hown hts hin hj.1 (fun c1 k t fin hc hf => ?_) hd hs hK
    have h2 := hj.2
    rw [hc, hf] at h2
    simpa using h2
  | arraylength =>
    obtain rfl : len = 1 := hl.resolve_left (by show ¬ (1 : Nat) = 0; decide)
    exact g_alen hx hb hd hs hK
  | iaload =>
    obtain rfl : len = 1 := hl.resolve_left (by show ¬ (1 : Nat) = 0; decide)
    exact g_iaload hx hb hd hs hK
  | baload =>
    obtain rfl : len = 1 := hl.resolve_left (by show ¬ (1 : Nat) = 0; decide)
    exact g_baload hx hb hd hs hK
  | laload =>
    obtain rfl : len = 1 := hl.resolve_left (by show ¬ (1 : Nat) = 0; decide)
    exact g_laload hx hb hd hs hK
  | daload =>
    obtain rfl : len = 1 := hl.resolve_left (by show ¬ (1 : Nat) = 0; decide)
    exact g_daload hx hb hd hs hK
  | aaload =>
    obtain rfl : len = 1 := hl.resolve_left (by show ¬ (1 : Nat) = 0; decide)
    exact g_aaload hx hb hd hs hK
  | iastore =>
    obtain rfl : len = 1 := hl.resolve_left (by show ¬ (1 : Nat) = 0; decide)
    exact g_iastore hx hb hd hs hK
  | bastore =>
    obtain rfl : len = 1 := hl.resolve_left (by show ¬ (1 : Nat) = 0; decide)
    exact g_bastore hx hb hd hs hK
  | lastore =>
    obtain rfl : len = 1 := hl.resolve_left (by show ¬ (1 : Nat) = 0; decide)
    exact g_lastore hx hb hd hs hK
  | dastore =>
    obtain rfl : len = 1 := hl.resolve_left (by show ¬ (1 : Nat) = 0; decide)
    exact g_dastore hx hb hd hs hK
  | aastore =>
    obtain rfl : len = 1 := hl.resolve_left (by show ¬ (1 : Nat) = 0; decide)
    exact g_aastore hx hb hd hs hK
  | newarray t =>
    obtain rfl : len = 2 := hl.resolve_left (by show ¬ (2 : Nat) = 0; decide)
    cases t with
    | int => exact g_newa_int hx hb hown hts hmc hms hd hs hL hK
    | boolean => exact g_newa_boolean hx hb hown hts hmc hms hd hs hL hK
    | long => exact g_newa_long hx hb hown hts hmc hms hd hs hL hK
    | double => exact g_newa_double hx hb hown hts hmc hms hd hs hL hK
    | _ => exact nomatch hs
  | new n =>
    obtain rfl : len = 3 := hl.resolve_left (by show ¬ (3 : Nat) = 0; decide)
    have hj9 := hj
    simp only [a_okJ, Bool.and_eq_true, decide_eq_true_eq] at hj9
    cases hcn : c_new (m_own m) n with
    | none =>
      simp only [a_step, hcn] at hs
      cases hs
    | some x =>
      cases x with
      | inl c1 => exact g_new hx hb hown hts hmc hms hj9.1 hcn hd hs hL hK
      | inr e1 =>
        simp only [a_plain, hcn] at hp
        cases hp
  | anewarray n =>
    obtain rfl : len = 3 := hl.resolve_left (by show ¬ (3 : Nat) = 0; decide)
    simp only [a_okJ, Bool.and_eq_true, decide_eq_true_eq] at hj
    refine g_anewa hx hb hown hts hmc hms hj.1 (fun c1 hc => ?_) hd hs hL hK
    have h2 := hj.2
    rw [hc] at h2
    simp only [Bool.and_eq_true, decide_eq_true_eq] at h2
    exact ⟨hZ.2.2.2.2.2.2.2.1 _ h2.2, h2.1⟩
  | getstatic n =>
    obtain rfl : len = 3 := hl.resolve_left (by show ¬ (3 : Nat) = 0; decide)
    exact g_static F (of_decide_eq_true hj) hd hs hK
  | ldc_w n =>
    obtain rfl : len = 3 := hl.resolve_left (by show ¬ (3 : Nat) = 0; decide)
    exact g_ldcw F (of_decide_eq_true hj) hd hs hK
  | ldc2_w n =>
    obtain rfl : len = 3 := hl.resolve_left (by show ¬ (3 : Nat) = 0; decide)
    exact g_ldc2 F (of_decide_eq_true hj) hd hs hK
  | ldc n =>
    obtain rfl : len = 2 := hl.resolve_left (by show ¬ (2 : Nat) = 0; decide)
    exact g_ldc F (of_decide_eq_true hj) hd hs hK
  | ireturn => cases hp
  | lreturn => cases hp
  | freturn => cases hp
  | dreturn => cases hp
  | areturn => cases hp
  | return_ => cases hp
  | invokevirtual n => cases hp
  | invokespecial n => cases hp
  | invokestatic n => cases hp
  | _ => exact nomatch hs
end SP
