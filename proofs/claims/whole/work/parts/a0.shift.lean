/-! ===== what has been made is only counted: a run from another count ===== -/
def sh (d : Nat × Nat) (σ : AS) : AS := (σ.1, σ.2.1, σ.2.2.1, (σ.2.2.2.1, d.1 + σ.2.2.2.2.1, d.2 + σ.2.2.2.2.2))
def shR (d : Nat × Nat) (x : SR) : SR := match x with
  | .inl (pc, ls, st, σ) => .inl (pc, ls, st, sh d σ)
  | .inr (.inl (v, σ)) => .inr (.inl (v, sh d σ))
  | .inr (.inr (.inl (e, σ))) => .inr (.inr (.inl (e, sh d σ)))
  | .inr (.inr (.inr (y, as, len, ls, st, σ))) => .inr (.inr (.inr (y, as, len, ls, st, sh d σ)))
def shO (d : Nat × Nat) (o : Option SR) : Option SR := o.map (shR d)
section SHF
variable {d : Nat × Nat} {st ls : List AV}
theorem pI_sh {k' k : Int → List AV → Option SR} (h : ∀ z st, k' z st = shO d (k z st)) : pI st k' = shO d (pI st k) := by
  rcases st with _ | ⟨z | z, st⟩ <;> first | exact h _ _ | rfl
theorem pII_sh {k' k : Int → Int → List AV → Option SR} (h : ∀ x y st, k' x y st = shO d (k x y st)) : pII st k' = shO d (pII st k) := by
  rcases st with _ | ⟨z | z, _ | ⟨y | y, st⟩⟩ <;> first | exact h _ _ _ | rfl
theorem pR_sh {k' k : Nat → List AV → Option SR} (h : ∀ z st, k' z st = shO d (k z st)) : pR st k' = shO d (pR st k) := by
  rcases st with _ | ⟨z | z | z, st⟩ <;> first | exact h _ _ | rfl
theorem pA_sh {k' k : AV → List AV → Option SR} (h : ∀ z st, k' z st = shO d (k z st)) : pA st k' = shO d (pA st k) := by
  rcases st with _ | ⟨z | z | z | z | z | z, st⟩
  case cons.inr.inr.inr.inr.inr => cases z <;> first | exact h _ _ | rfl
  all_goals first | exact h _ _ | rfl
theorem pIR_sh {k' k : Nat → Int → List AV → Option SR} (h : ∀ x y st, k' x y st = shO d (k x y st)) : pIR st k' = shO d (pIR st k) := by
  rcases st with _ | ⟨z | z, _ | ⟨y | y | y, st⟩⟩ <;> first | exact h _ _ _ | rfl
theorem pVIR_sh {k' k : Nat → Int → AV → List AV → Option SR} (h : ∀ x y v st, k' x y v st = shO d (k x y v st)) : pVIR st k' = shO d (pVIR st k) := by
  rcases st with _ | ⟨v, _ | ⟨z | z, _ | ⟨y | y | y, st⟩⟩⟩ <;> first | exact h _ _ _ _ | rfl
theorem pL_sh {k' k : Int → List AV → Option SR} (h : ∀ z st, k' z st = shO d (k z st)) : pL st k' = shO d (pL st k) := by
  rcases st with _ | ⟨z | z | z | z, st⟩ <;> first | exact h _ _ | rfl
theorem pLL_sh {k' k : Int → Int → List AV → Option SR} (h : ∀ x y st, k' x y st = shO d (k x y st)) : pLL st k' = shO d (pLL st k) := by
  rcases st with _ | ⟨z | z | z | z, _ | ⟨y | y | y | y, st⟩⟩ <;> first | exact h _ _ _ | rfl
theorem pF_sh {k' k : UInt32 → List AV → Option SR} (h : ∀ z st, k' z st = shO d (k z st)) : pF st k' = shO d (pF st k) := by
  rcases st with _ | ⟨z | z | z | z | z, st⟩ <;> first | exact h _ _ | rfl
theorem pFF_sh {k' k : UInt32 → UInt32 → List AV → Option SR} (h : ∀ x y st, k' x y st = shO d (k x y st)) : pFF st k' = shO d (pFF st k) := by
  rcases st with _ | ⟨z | z | z | z | z, _ | ⟨y | y | y | y | y, st⟩⟩ <;> first | exact h _ _ _ | rfl
theorem pD_sh {k' k : UInt64 → List AV → Option SR} (h : ∀ z st, k' z st = shO d (k z st)) : pD st k' = shO d (pD st k) := by
  rcases st with _ | ⟨z | z | z | z | z | z, st⟩ <;> first | exact h _ _ | rfl
theorem pDD_sh {k' k : UInt64 → UInt64 → List AV → Option SR} (h : ∀ x y st, k' x y st = shO d (k x y st)) : pDD st k' = shO d (pDD st k) := by
  rcases st with _ | ⟨z | z | z | z | z | z, _ | ⟨y | y | y | y | y | y, st⟩⟩ <;> first | exact h _ _ _ | rfl
theorem pV_sh {k' k : AV → List AV → Option SR} (h : ∀ z st, k' z st = shO d (k z st)) : pV st k' = shO d (pV st k) := by
  rcases st with _ | ⟨z, st⟩ <;> first | exact h _ _ | rfl
theorem gI_sh {i : Nat} {k' k : Int → Option SR} (h : ∀ z, k' z = shO d (k z)) : gI ls i k' = shO d (gI ls i k) := by
  unfold gI
  rcases ls[i]? with _ | (z | z) <;> first | exact h _ | rfl
theorem gA_sh {i : Nat} {k' k : AV → Option SR} (h : ∀ z, k' z = shO d (k z)) : gA ls i k' = shO d (gA ls i k) := by
  unfold gA
  rcases ls[i]? with _ | (z | z | z | z | z | z)
  case some.inr.inr.inr.inr.inr => cases z <;> first | exact h _ | rfl
  all_goals first | exact h _ | rfl
theorem gL_sh {i : Nat} {k' k : Int → Option SR} (h : ∀ z, k' z = shO d (k z)) : gL ls i k' = shO d (gL ls i k) := by
  unfold gL
  rcases ls[i]? with _ | (z | z | z | z) <;> first | exact h _ | rfl
theorem gF_sh {i : Nat} {k' k : UInt32 → Option SR} (h : ∀ z, k' z = shO d (k z)) : gF ls i k' = shO d (gF ls i k) := by
  unfold gF
  rcases ls[i]? with _ | (z | z | z | z | z) <;> first | exact h _ | rfl
theorem gD_sh {i : Nat} {k' k : UInt64 → Option SR} (h : ∀ z, k' z = shO d (k z)) : gD ls i k' = shO d (gD ls i k) := by
  unfold gD
  rcases ls[i]? with _ | (z | z | z | z | z | z) <;> first | exact h _ | rfl
theorem if_sh {P : Prop} {h1 h2 : Decidable P} {a b : Option SR} (h : P → a = shO d b) : (@ite _ P h1 a none) = shO d (@ite _ P h2 b none) := by
  by_cases hp : P
  · rw [if_pos hp, if_pos hp]; exact h hp
  · rw [if_neg hp, if_neg hp]; rfl
theorem s1_sh {i : Nat} {a : AV} {k' k : List AV → Option SR} (h : ∀ z, k' z = shO d (k z)) : s1 ls i a k' = shO d (s1 ls i a k) := if_sh fun _ => h _
theorem s2_sh {i : Nat} {a : AV} {k' k : List AV → Option SR} (h : ∀ z, k' z = shO d (k z)) : s2 ls i a k' = shO d (s2 ls i a k) := if_sh fun _ => h _
theorem a_new_sh {σ : AS} {k len n : Nat} : a_new (sh d σ) k len n = sh d (a_new σ k len n) := by simp only [a_new, sh, Nat.add_assoc]
theorem a_thr_sh {σ : AS} : a_thr (sh d σ) = sh d (a_thr σ) := by simp only [a_thr, sh, Nat.add_assoc]
theorem a_call_sh {y pc len : Nat} {σ : AS} : a_call y pc len ls st (sh d σ) = shO d (a_call y pc len ls st σ) := by
  by_cases h1 : y < 1000
  · have e := fun σ => show a_call y pc len ls st σ = _ from if_pos h1
    rw [e, e]
    exact if_sh fun _ => rfl
  by_cases h2 : y = 1000
  · subst h2
    exact pR_sh fun _ _ => if_sh fun _ => rfl
  by_cases h3 : y = 1001
  · subst h3
    show (match st with
    | .inl n :: .inl dp :: .inr (.inl d) :: .inl sp :: .inr (.inl s) :: st => _
    | _ => none) = shO d (match st with
    | .inl n :: .inl dp :: .inr (.inl d) :: .inl sp :: .inr (.inl s) :: st => _
    | _ => none)
    rcases st with _ | ⟨n | n, _ | ⟨dp | dp, _ | ⟨e | e | e, _ | ⟨sp | sp, _ | ⟨s | s | s, st⟩⟩⟩⟩⟩ <;> first | exact if_sh fun _ => rfl | rfl
  by_cases h4 : y = 1002
  · subst h4
    exact pII_sh fun _ _ _ => if_sh fun _ => rfl
  by_cases h5 : y = 1003
  · subst h5
    exact pII_sh fun _ _ _ => if_sh fun _ => rfl
  have e : ∀ σ, a_call y pc len ls st σ = none := fun σ => by
    unfold a_call
    rw [if_neg h1, if_neg h2, if_neg h3, if_neg h4, if_neg h5]
  rw [e, e]
  rfl
set_option maxHeartbeats 4000000 in
theorem a_step_sh {m pc : Nat} {i : Instr} {len : Nat} {σ : AS} : a_step m pc i len ls st (sh d σ) = shO d (a_step m pc i len ls st σ) := by
  cases i
  case ldc idx =>
    show (match c_int (m_own m) idx with
      | some z => a_next (pc + len) ls (a_i z :: st) (sh d σ)
      | none => match c_str (m_own m) idx with
        | some q => a_next (pc + len) ls (a_r q :: st) (sh d σ)
        | none => none) = shO d (match c_int (m_own m) idx with
      | some z => a_next (pc + len) ls (a_i z :: st) σ
      | none => match c_str (m_own m) idx with
        | some q => a_next (pc + len) ls (a_r q :: st) σ
        | none => none)
    cases c_int (m_own m) idx
    · cases c_str (m_own m) idx <;> rfl
    · rfl
  case ldc_w idx =>
    show (match c_int (m_own m) idx with
      | some z => a_next (pc + len) ls (a_i z :: st) (sh d σ)
      | none => none) = shO d (match c_int (m_own m) idx with
      | some z => a_next (pc + len) ls (a_i z :: st) σ
      | none => none)
    cases c_int (m_own m) idx <;> rfl
  case ldc2_w idx =>
    show (match c_long (m_own m) idx with
      | some z => a_next (pc + len) ls (a_l z :: st) (sh d σ)
      | none => none) = shO d (match c_long (m_own m) idx with
      | some z => a_next (pc + len) ls (a_l z :: st) σ
      | none => none)
    cases c_long (m_own m) idx <;> rfl
  case getstatic idx =>
    show (match c_sta (m_own m) idx with
      | some a => a_next (pc + len) ls (a :: st) (sh d σ)
      | none => none) = shO d (match c_sta (m_own m) idx with
      | some a => a_next (pc + len) ls (a :: st) σ
      | none => none)
    cases c_sta (m_own m) idx <;> rfl
  case tableswitch dflt lo hi offs =>
    refine pI_sh fun x st => ?_
    by_cases hx : x < lo ∨ hi < x
    · rw [if_pos hx, if_pos hx]; rfl
    · rw [if_neg hx, if_neg hx]
      cases offs[(x - lo).toNat]? <;> rfl
  case getfield idx =>
    show (match c_fld (m_own m) idx with
      | some (c, k, t, _) => pR st fun r st => if ((sh d σ).1 r).1 = c then a_next (pc + len) ls ((if t = 6 then a_r ((sh d σ).2.2.1 r k) else a_i ((sh d σ).2.1 r k)) :: st) (sh d σ) else none
      | none => none) = shO d (match c_fld (m_own m) idx with
      | some (c, k, t, _) => pR st fun r st => if (σ.1 r).1 = c then a_next (pc + len) ls ((if t = 6 then a_r (σ.2.2.1 r k) else a_i (σ.2.1 r k)) :: st) σ else none
      | none => none)
    rcases c_fld (m_own m) idx with _ | ⟨c, k, t, f⟩
    · rfl
    · exact pR_sh fun _ _ => if_sh fun _ => rfl
  case putfield idx =>
    show (match c_fld (m_own m) idx with
      | some (c, k, t, fin) => if fin = true → m_init m = true then
          if t = 6 then match st with
            | .inr (.inl v) :: .inr (.inl r) :: st => if ((sh d σ).1 r).1 = c ∧ c < 20 then a_next (pc + len) ls st (a_setr (sh d σ) r k v) else none
            | _ => none
          else match st with
            | .inl z :: .inr (.inl r) :: st => if ((sh d σ).1 r).1 = c ∧ c < 20 ∧ a_fit t z = true then a_next (pc + len) ls st (a_set (sh d σ) r k z) else none
            | _ => none
        else none
      | none => none) = shO d (match c_fld (m_own m) idx with
      | some (c, k, t, fin) => if fin = true → m_init m = true then
          if t = 6 then match st with
            | .inr (.inl v) :: .inr (.inl r) :: st => if (σ.1 r).1 = c ∧ c < 20 then a_next (pc + len) ls st (a_setr σ r k v) else none
            | _ => none
          else match st with
            | .inl z :: .inr (.inl r) :: st => if (σ.1 r).1 = c ∧ c < 20 ∧ a_fit t z = true then a_next (pc + len) ls st (a_set σ r k z) else none
            | _ => none
        else none
      | none => none)
    rcases c_fld (m_own m) idx with _ | ⟨c, k, t, f⟩
    · rfl
    · refine if_sh fun _ => ?_
      by_cases h6 : t = 6
      · rw [if_pos h6, if_pos h6]
        rcases st with _ | ⟨z | z | z, _ | ⟨y | y | y, st⟩⟩ <;> first | exact if_sh fun _ => rfl | rfl
      · rw [if_neg h6, if_neg h6]
        rcases st with _ | ⟨z | z | z, _ | ⟨y | y | y, st⟩⟩ <;> first | exact if_sh fun _ => rfl | rfl
  case new idx =>
    show (match c_new (m_own m) idx with
      | some (.inl c) => a_next (pc + len) ls (a_r (sh d σ).2.2.2.1 :: st) (a_new (sh d σ) (c + 1) 0 (k_size c))
      | some (.inr e) => if a_sum st ≤ 8 ∧ m_tabl m = false then some (.inr (.inr (.inl (e, a_thr (sh d σ))))) else none
      | none => none) = shO d (match c_new (m_own m) idx with
      | some (.inl c) => a_next (pc + len) ls (a_r σ.2.2.2.1 :: st) (a_new σ (c + 1) 0 (k_size c))
      | some (.inr e) => if a_sum st ≤ 8 ∧ m_tabl m = false then some (.inr (.inr (.inl (e, a_thr σ)))) else none
      | none => none)
    rw [a_thr_sh]
    rcases c_new (m_own m) idx with _ | (c | e)
    · rfl
    · show a_next _ _ _ (a_new (sh d σ) (c + 1) 0 (k_size c)) = _
      rw [a_new_sh]; rfl
    · exact if_sh fun _ => rfl
  case anewarray idx =>
    show (match c_new (m_own m) idx with
      | some (.inl c) => pI st fun n st => if 0 ≤ n ∧ n ≤ 65536 then a_next (pc + len) ls (a_r (sh d σ).2.2.2.1 :: st) (a_new (sh d σ) (c + 30) n.toNat n.toNat) else none
      | _ => none) = shO d (match c_new (m_own m) idx with
      | some (.inl c) => pI st fun n st => if 0 ≤ n ∧ n ≤ 65536 then a_next (pc + len) ls (a_r σ.2.2.2.1 :: st) (a_new σ (c + 30) n.toNat n.toNat) else none
      | _ => none)
    rcases c_new (m_own m) idx with _ | (c | e)
    · rfl
    · exact pI_sh fun n st => if_sh fun _ => by rw [a_new_sh]; rfl
    · rfl
  case newarray t =>
    cases t
    all_goals first | rfl | exact pI_sh fun n st => if_sh fun _ => by rw [a_new_sh]; rfl
  case invokevirtual idx =>
    show (match c_cal (m_own m) idx with
      | some y => a_call y pc len ls st (sh d σ)
      | none => none) = shO d (match c_cal (m_own m) idx with
      | some y => a_call y pc len ls st σ
      | none => none)
    cases c_cal (m_own m) idx
    · rfl
    · exact a_call_sh
  case invokespecial idx =>
    show (match c_cal (m_own m) idx with
      | some y => a_call y pc len ls st (sh d σ)
      | none => none) = shO d (match c_cal (m_own m) idx with
      | some y => a_call y pc len ls st σ
      | none => none)
    cases c_cal (m_own m) idx
    · rfl
    · exact a_call_sh
  case invokestatic idx =>
    show (match c_cal (m_own m) idx with
      | some y => a_call y pc len ls st (sh d σ)
      | none => none) = shO d (match c_cal (m_own m) idx with
      | some y => a_call y pc len ls st σ
      | none => none)
    cases c_cal (m_own m) idx
    · rfl
    · exact a_call_sh
  case aload n => exact gA_sh (k := fun z => a_next (pc + len) ls (z :: st) σ) (fun z => rfl)
  case aload_n n => exact gA_sh (k := fun z => a_next (pc + len) ls (z :: st) σ) (fun z => rfl)
  case astore n => exact pA_sh (k := fun a st => s1 ls n a fun ls => a_next (pc + len) ls st σ) (fun z st => s1_sh fun _ => rfl)
  case astore_n n => exact pA_sh (k := fun a st => s1 ls n.val a fun ls => a_next (pc + len) ls st σ) (fun z st => s1_sh fun _ => rfl)
  case ireturn => rcases st with _ | ⟨z | z, _ | ⟨y, st⟩⟩ <;> first | exact if_sh fun _ => rfl | rfl
  case lreturn => rcases st with _ | ⟨z | z | z | z, _ | ⟨y, st⟩⟩ <;> first | exact if_sh fun _ => rfl | rfl
  case freturn => rcases st with _ | ⟨z | z | z | z | z, _ | ⟨y, st⟩⟩ <;> first | exact if_sh fun _ => rfl | rfl
  case dreturn => rcases st with _ | ⟨z | z | z | z | z | z, _ | ⟨y, st⟩⟩ <;> first | exact if_sh fun _ => rfl | rfl
  case areturn => rcases st with _ | ⟨z | z | z, _ | ⟨y, st⟩⟩ <;> first | exact if_sh fun _ => rfl | rfl
  case return_ => exact if_sh fun _ => rfl
  all_goals first
    | rfl
    | exact gI_sh fun _ => rfl
    | exact gA_sh fun _ => rfl
    | exact gL_sh fun _ => rfl
    | exact gF_sh fun _ => rfl
    | exact gD_sh fun _ => rfl
    | exact gI_sh fun _ => s1_sh fun _ => rfl
    | exact pI_sh fun _ _ => rfl
    | exact pI_sh fun _ _ => s1_sh fun _ => rfl
    | exact pA_sh fun _ _ => s1_sh fun _ => rfl
    | exact pF_sh fun _ _ => s1_sh fun _ => rfl
    | exact pD_sh fun _ _ => s2_sh fun _ => rfl
    | exact pII_sh fun _ _ _ => rfl
    | exact pII_sh fun _ _ _ => if_sh fun _ => rfl
    | exact pLL_sh fun _ _ _ => rfl
    | exact pFF_sh fun _ _ _ => rfl
    | exact pFF_sh fun _ _ _ => if_sh fun _ => rfl
    | exact pDD_sh fun _ _ _ => rfl
    | exact pDD_sh fun _ _ _ => if_sh fun _ => rfl
    | exact pF_sh fun _ _ => if_sh fun _ => rfl
    | exact pV_sh fun _ _ => if_sh fun _ => rfl
    | exact pV_sh fun _ _ => pV_sh fun _ _ => if_sh fun _ => rfl
    | exact pR_sh fun _ _ => if_sh fun _ => rfl
    | exact pIR_sh fun _ _ _ => if_sh fun _ => rfl
    | exact pVIR_sh fun _ _ _ _ => pI_sh fun _ _ => if_sh fun _ => rfl
    | exact pVIR_sh fun _ _ _ _ => pL_sh fun _ _ => if_sh fun _ => rfl
    | exact pVIR_sh fun _ _ _ _ => pD_sh fun _ _ => if_sh fun _ => rfl
    | exact pVIR_sh fun _ _ _ _ => pR_sh fun _ _ => if_sh fun _ => rfl
    | exact if_sh fun _ => rfl
end SHF
theorem a_run_sh {d : Nat × Nat} : ∀ (n : Nat) {m pc : Nat} {ls st : List AV} {σ : AS}, a_run n m pc ls st (sh d σ) = (a_run n m pc ls st σ).map (fun q => (q.1, sh d q.2))
  | 0, _, _, _, _, _ => rfl
  | n + 1, m, pc, ls, st, σ => by
    rw [a_run, a_run]
    rcases a_code m pc with _ | ⟨i, len⟩
    · rfl
    · simp only [a_step_sh]
      rcases hs : a_step m pc i len ls st σ with _ | (⟨pc1, ls1, st1, σ1⟩ | ⟨v, σ1⟩ | ⟨e, σ1⟩ | ⟨y, args, len1, ls1, st1, σ1⟩)
      · rfl
      · exact a_run_sh n
      · rfl
      · rfl
      · simp only [shO, shR, Option.map_some]
        rw [a_run_sh n]
        rcases a_run n y 0 (a_entry y args) [] σ1 with _ | ⟨v | e, σ2⟩
        · rfl
        · exact a_run_sh n
        · simp only [Option.map_some]
          rcases m_hand m pc e with _ | h
          · cases m_tabl m <;> rfl
          · exact a_run_sh n
theorem a_m_sh {d : Nat × Nat} {y : Nat} {as : List AV} {σ σ1 : AS} {o : AO} (h : a_m y as σ = some (o, σ1)) : a_m y as (sh d σ) = some (o, sh d σ1) := by
  obtain ⟨n, hn⟩ := a_X_iff.mp h
  exact a_X_iff.mpr ⟨n, by rw [a_run_sh, hn]; rfl⟩
