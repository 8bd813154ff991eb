/-! ===== ends of a body ===== -/
theorem nar_c {w : Int32} (h1 : 0 ≤ w.toInt) (h2 : w.toInt < 65536) : w.toUInt32.toUInt16.toUInt32.toInt32 = w := by
  rw [← Int32.toInt_inj]
  have e0 : w.toInt = w.toBitVec.toInt := rfl
  have e1 : w.toUInt32.toUInt16.toUInt32.toInt32.toInt = w.toUInt32.toUInt16.toUInt32.toInt32.toBitVec.toInt := rfl
  have e2 : w.toUInt32.toUInt16.toUInt32.toInt32.toBitVec.toNat = w.toBitVec.toNat % 65536 := rfl
  have h3 := w.toBitVec.isLt
  have hb : w.toBitVec.toNat < 65536 := by
    rw [e0, BitVec.toInt_eq_toNat_cond] at h1 h2
    by_cases hc : 2 * w.toBitVec.toNat < 2 ^ 32
    · rw [if_pos hc] at h2
      omega
    · rw [if_neg hc] at h1
      omega
  rw [e1, e0, BitVec.toInt_eq_toNat_cond, BitVec.toInt_eq_toNat_cond, e2, Nat.mod_eq_of_lt hb]
theorem nar_b {w : Int32} (h1 : -128 ≤ w.toInt) (h2 : w.toInt < 128) : w.toInt8.toInt32 = w := by
  rw [← Int32.toInt_inj, Int8.toInt_toInt32, Int32.toInt_toInt8]
  unfold Int.bmod
  have h3 := Int.emod_nonneg w.toInt (show (256 : Int) ≠ 0 by decide)
  have h4 := Int.emod_lt_of_pos w.toInt (show (0 : Int) < 256 by decide)
  show (if w.toInt % 256 < (256 + 1) / 2 then w.toInt % 256 else w.toInt % 256 - 256) = _
  split <;> omega
theorem ret_i {r : Nat} {t : Option FieldType} {w : Int32} (h : f_ret r t = true) (hf : a_fit r w.toInt = true) : ∃ ty, t = some ty ∧ narrow ty (.int w) = .int w := by
  cases t with
  | none =>
    simp only [f_ret, beq_iff_eq] at h
    subst h
    cases hf
  | some ty =>
    refine ⟨ty, rfl, ?_⟩
    cases ty with
    | boolean =>
      simp only [f_ret, beq_iff_eq] at h
      subst h
      exact (a_int_nar (t1 := 2) rfl (by decide) hf).1
    | char =>
      simp only [f_ret, beq_iff_eq] at h
      subst h
      simp only [a_fit, Bool.and_eq_true, decide_eq_true_eq] at hf
      show Value.int _ = _
      rw [nar_c hf.1 hf.2]
    | byte =>
      simp only [f_ret, beq_iff_eq] at h
      subst h
      simp only [a_fit, Bool.and_eq_true, decide_eq_true_eq] at hf
      show Value.int _ = _
      rw [nar_b hf.1 hf.2]
    | short => simp [f_ret] at h
    | _ => rfl
theorem ret_l {t : Option FieldType} (h : f_ret 3 t = true) : t = some .long := by
  cases t with
  | none => simp [f_ret] at h
  | some ty => cases ty <;> first | rfl | (simp [f_ret] at h)
theorem ret_f {t : Option FieldType} (h : f_ret 4 t = true) : t = some .float := by
  cases t with
  | none => simp [f_ret] at h
  | some ty => cases ty <;> first | rfl | (simp [f_ret] at h)
theorem ret_d {t : Option FieldType} (h : f_ret 5 t = true) : t = some .double := by
  cases t with
  | none => simp [f_ret] at h
  | some ty => cases ty <;> first | rfl | (simp [f_ret] at h)
theorem ret_v {t : Option FieldType} (h : f_ret 0 t = true) : t = none := by
  cases t with
  | none => rfl
  | some ty => cases ty <;> simp [f_ret] at h
theorem ret_a {t : Option FieldType} (h : f_ret 6 t = true) : ∃ ty, t = some ty ∧ ((∃ n, ty = .object n) ∨ ∃ t, ty = .array t) := by
  cases t with
  | none => simp [f_ret] at h
  | some ty => cases ty <;> first | exact ⟨_, rfl, Or.inl ⟨_, rfl⟩⟩ | exact ⟨_, rfl, Or.inr ⟨_, rfl⟩⟩ | (simp [f_ret] at h)
theorem call_q {y pc len : Nat} {ls st : List AV} {σ : AS} {q : SR} (h : a_call y pc len ls st σ = some q) : (1000 ≤ y ∧ y ≤ 1003 ∧ ∃ a, q = .inl a) ∨ (y < 1000 ∧ (m_nargs y ≤ st.length ∧ a_sum (st.drop (m_nargs y)) ≤ 8 ∧ (st.take (m_nargs y)).all a_kn = true ∧ a_rcv (m_recv y) (st.take (m_nargs y)).reverse σ = true ∧ (a_lay (st.take (m_nargs y)).reverse).length ≤ m_maxL y) ∧ q = .inr (.inr (.inr (y, (st.take (m_nargs y)).reverse, len, ls, st.drop (m_nargs y), σ)))) := by
  unfold a_call at h
  split at h
  · rename_i hy
    obtain ⟨h1, h2⟩ := a_ite h
    exact Or.inr ⟨hy, h1, (Option.some.inj h2).symm⟩
  · split at h
    · rename_i hy
      obtain ⟨r, st1, -, h9⟩ := pR_some h
      obtain ⟨-, h9⟩ := a_ite h9
      exact Or.inl ⟨by omega, by omega, _, (Option.some.inj h9).symm⟩
    · split at h
      · split at h
        · obtain ⟨-, h9⟩ := a_ite h
          exact Or.inl ⟨by omega, by omega, _, (Option.some.inj h9).symm⟩
        · cases h
      · split at h
        · obtain ⟨x, y1, st1, -, h9⟩ := pII_some h
          obtain ⟨-, h9⟩ := a_ite h9
          exact Or.inl ⟨by omega, by omega, _, (Option.some.inj h9).symm⟩
        · split at h
          · obtain ⟨x, y1, st1, -, h9⟩ := pII_some h
            obtain ⟨-, h9⟩ := a_ite h9
            exact Or.inl ⟨by omega, by omega, _, (Option.some.inj h9).symm⟩
          · cases h
section SQ
variable {p : Program} {l : Launch} {e : Env} {R : Room} {s : State} {mi : MethodId} {args : Array Value} {below : List Frame} {meth : Method} {c : Code} {D : va_G} {tA : Nat → ClassId} {bs : Nat} {aS L0 : Nat → Nat} {n0 mc ms : Nat} {m pc : Nat} {ls st : List AV} {σ : AS} {q : SR}
theorem a_fino {L : Nat → Nat} {H : Heap} {locs : List Loc} {av : Option AV} {ov : Option Value} (hW : a_W D tA bs aS L σ s H) (hS : va_S (a_A bs) s.heap H locs) (hx0 : a_ex L0 L n0) (hr : a_ret L σ.2.2.2.1 av ov) : ∀ t : State, t.heap = H → s.WarmedH t.vm → a_Qc D tA bs aS L0 n0 (.inl av) σ args s (.returned ov) t := fun t ht hWt =>
  ⟨av, ov, L, rfl, rfl, hr, hx0, by rw [ht]; exact hW.moved hWt.alike, by rw [ht]; exact hS.1, fun q h1 h2 => by rw [ht]; exact hS.2.1 q h1 h2⟩
theorem g_ret {i : Instr} {len : Nat} {av : Option AV} {σ1 : AS} (F : a_Fx p l R s mi args meth c bs aS m) (hc : a_code m pc = some (i, len)) (hp : a_plain m i = false) (hs : a_step m pc i len ls st σ = some (.inr (.inl (av, σ1)))) : a_Gd p l e R s mi args below meth c (vx_MQ below (a_Qc D tA bs aS L0 n0 (.inl av) σ1) (a_XC D tA bs aS L0 n0 (.inl av) σ1) args s mc ms (a_A bs)) D tA bs aS L0 n0 mc ms σ1.2.2.2.2.1 σ1.2.2.2.2.2 pc ls st σ := by
  obtain ⟨hd, ho⟩ := a_code_dec hc
  have hmk := m_ok (a_code_lt hc)
  simp only [m_okM, Bool.and_eq_true, decide_eq_true_eq] at hmk
  obtain ⟨⟨⟨⟨⟨⟨hret, -⟩, -⟩, -⟩, -⟩, -⟩, -⟩ := hmk
  obtain ⟨hx, hb, hml, hrt, hlk, -⟩ := F
  have hl : a_len i = 0 ∨ len = a_len i := by
    have h1 := ho
    unfold a_okI at h1
    rw [Bool.and_eq_true, Bool.or_eq_true, decide_eq_true_eq, decide_eq_true_eq] at h1
    exact h1.1
  cases i with
  | ireturn =>
    obtain rfl : len = 1 := hl.resolve_left (by show ¬ (1 : Nat) = 0; decide)
    simp only [a_step] at hs
    split at hs
    · obtain ⟨hf, hs⟩ := a_ite hs
      cases hs
      intro L H locs cells slots lsC stC hn hx0 hW hS hc1 hc2 hl hst
      obtain ⟨w, v1, ev, ew, h9⟩ := st_i hst
      subst ev
      obtain rfl : v1 = [] := List.length_eq_zero_iff.mp (a_st_len h9)
      rw [← ew] at hf
      obtain ⟨ty, hty, hn⟩ := ret_i hret hf
      exact vx_ret (W.widen (k := mc) (n := ms) (by omega) (by omega) (W.zret hx hb (hrt.trans hty) hn (a_fino (av := some (a_i _)) (ov := some (.int w)) hW hS hx0 ⟨rfl, ⟨w, rfl, ew⟩⟩) hS.2.2 hd hlk))
    · cases hs
  | lreturn =>
    obtain rfl : len = 1 := hl.resolve_left (by show ¬ (1 : Nat) = 0; decide)
    simp only [a_step] at hs
    split at hs
    · obtain ⟨hf, hs⟩ := a_ite hs
      cases hs
      intro L H locs cells slots lsC stC hn hx0 hW hS hc1 hc2 hl hst
      obtain ⟨w, v1, ev, ew, h9⟩ := st_l hst
      subst ev
      obtain rfl : v1 = [] := List.length_eq_zero_iff.mp (a_st_len h9)
      rw [hf] at hret
      exact vx_ret (W.widen (k := mc) (n := ms) (by omega) (by omega) (W.lret hx hb (hrt.trans (ret_l hret)) (a_fino (av := some (a_l _)) (ov := some (.long w)) hW hS hx0 ⟨rfl, ⟨w, rfl, ew⟩⟩) hS.2.2 hd hlk))
    · cases hs
  | freturn =>
    obtain rfl : len = 1 := hl.resolve_left (by show ¬ (1 : Nat) = 0; decide)
    simp only [a_step] at hs
    split at hs
    · obtain ⟨hf, hs⟩ := a_ite hs
      cases hs
      intro L H locs cells slots lsC stC hn hx0 hW hS hc1 hc2 hl hst
      obtain ⟨v1, ev, h9⟩ := st_f hst
      subst ev
      obtain rfl : v1 = [] := List.length_eq_zero_iff.mp (a_st_len h9)
      rw [hf] at hret
      exact vx_ret (W.widen (k := mc) (n := ms) (by omega) (by omega) (W.fret hx hb (hrt.trans (ret_f hret)) (a_fino (av := some (a_f _)) (ov := some (.float _)) hW hS hx0 ⟨rfl, rfl⟩) hS.2.2 hd hlk))
    · cases hs
  | dreturn =>
    obtain rfl : len = 1 := hl.resolve_left (by show ¬ (1 : Nat) = 0; decide)
    simp only [a_step] at hs
    split at hs
    · obtain ⟨hf, hs⟩ := a_ite hs
      cases hs
      intro L H locs cells slots lsC stC hn hx0 hW hS hc1 hc2 hl hst
      obtain ⟨v1, ev, h9⟩ := st_d hst
      subst ev
      obtain rfl : v1 = [] := List.length_eq_zero_iff.mp (a_st_len h9)
      rw [hf] at hret
      exact vx_ret (W.widen (k := mc) (n := ms) (by omega) (by omega) (W.dret hx hb (hrt.trans (ret_d hret)) (a_fino (av := some (a_d _)) (ov := some (.double _)) hW hS hx0 ⟨rfl, rfl⟩) hS.2.2 hd hlk))
    · cases hs
  | areturn =>
    obtain rfl : len = 1 := hl.resolve_left (by show ¬ (1 : Nat) = 0; decide)
    simp only [a_step] at hs
    split at hs
    · obtain ⟨hf, hs⟩ := a_ite hs
      cases hs
      intro L H locs cells slots lsC stC hn hx0 hW hS hc1 hc2 hl hst
      obtain ⟨v1, ev, hq, h9⟩ := st_r hst
      subst ev
      obtain rfl : v1 = [] := List.length_eq_zero_iff.mp (a_st_len h9)
      rw [hf] at hret
      obtain ⟨ty, hty, hk⟩ := ret_a hret
      refine vx_ret (W.widen (k := mc) (n := ms) (by omega) (by omega) (W.aret hx hb (hrt.trans hty) hk ?_ (a_fino (av := some (a_r _)) (ov := some (a_null L _)) hW hS hx0 ⟨rfl, ⟨hq, rfl⟩⟩) hS.2.2 hd hlk))
      unfold a_null
      split
      · exact Or.inl rfl
      · exact Or.inr ⟨_, rfl⟩
    · cases hs
  | return_ =>
    obtain rfl : len = 1 := hl.resolve_left (by show ¬ (1 : Nat) = 0; decide)
    simp only [a_step] at hs
    obtain ⟨h0, h9⟩ := a_ite hs
    clear hs
    obtain ⟨hf, est⟩ := h0
    subst est
    cases h9
    intro L H locs cells slots lsC stC hn hx0 hW hS hc1 hc2 hl hst
    obtain rfl : stC = [] := List.length_eq_zero_iff.mp (a_st_len hst)
    rw [hf] at hret
    exact vx_ret (W.widen (k := mc) (n := ms) (by omega) (by omega) (W.vret hx hb (hrt.trans (ret_v hret)) (a_fino (av := none) (ov := none) hW hS hx0 trivial) hS.2.2 hd hlk))
  | invokevirtual n =>
    simp only [a_step] at hs
    split at hs
    · rcases call_q hs with ⟨-, -, a, h⟩ | ⟨-, -, h⟩ <;> cases h
    · cases hs
  | invokespecial n =>
    simp only [a_step] at hs
    split at hs
    · rcases call_q hs with ⟨-, -, a, h⟩ | ⟨-, -, h⟩ <;> cases h
    · cases hs
  | invokestatic n =>
    simp only [a_step] at hs
    split at hs
    · rcases call_q hs with ⟨-, -, a, h⟩ | ⟨-, -, h⟩ <;> cases h
    · cases hs
  | new n =>
    simp only [a_step] at hs
    split at hs
    · cases hs
    · obtain ⟨-, hs⟩ := a_ite hs
      cases hs
    · cases hs
  | _ => cases hp
end SQ
