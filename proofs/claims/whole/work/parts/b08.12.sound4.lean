/-! ===== monotone counters ===== -/
def a_le (σ σ1 : AS) : Prop := σ.2.2.2.1 ≤ σ1.2.2.2.1 ∧ σ.2.2.2.2.1 ≤ σ1.2.2.2.2.1 ∧ σ.2.2.2.2.2 ≤ σ1.2.2.2.2.2
theorem a_le.rf {σ : AS} : a_le σ σ := ⟨Nat.le_refl _, Nat.le_refl _, Nat.le_refl _⟩
theorem a_le.trans {a b d : AS} (h : a_le a b) (h1 : a_le b d) : a_le a d := ⟨Nat.le_trans h.1 h1.1, Nat.le_trans h.2.1 h1.2.1, Nat.le_trans h.2.2 h1.2.2⟩
theorem a_le.of {σ σ1 : AS} (h : σ1.2.2.2 = σ.2.2.2) : a_le σ σ1 := by
  unfold a_le
  rw [h]
  exact ⟨Nat.le_refl _, Nat.le_refl _, Nat.le_refl _⟩
def a_mon (tb : Bool) (lk : List AV) (σ : AS) (q : Option SR) : Prop := match q with
  | none => True
  | some (.inl (_, ls1, _, σ1)) => a_le σ σ1 ∧ ls1.length = lk.length
  | some (.inr (.inl (_, σ1))) => a_le σ σ1
  | some (.inr (.inr (.inl (_, σ1)))) => a_le σ σ1 ∧ tb = false
  | some (.inr (.inr (.inr (_, _, _, ls1, _, σ1)))) => a_le σ σ1 ∧ ls1.length = lk.length
theorem mon_n {tb : Bool} {lk : List AV} {σ : AS} : a_mon tb lk σ none := trivial
theorem mon_x {tb : Bool} {lk : List AV} {σ σ1 : AS} {pc : Nat} {ls st : List AV} (h : a_le σ σ1) (hz : ls.length = lk.length) : a_mon tb lk σ (a_next pc ls st σ1) := ⟨h, hz⟩
theorem mon_r {tb : Bool} {lk : List AV} {σ : AS} {pc : Nat} {ls st : List AV} (hz : ls.length = lk.length) : a_mon tb lk σ (a_next pc ls st σ) := ⟨a_le.rf, hz⟩
theorem mon_ite {tb : Bool} {lk : List AV} {σ : AS} {P : Prop} {_ : Decidable P} {a b : Option SR} (h : P → a_mon tb lk σ a) (h1 : ¬ P → a_mon tb lk σ b) : a_mon tb lk σ (if P then a else b) := by
  split
  · rename_i hp; exact h hp
  · rename_i hp; exact h1 hp
theorem mon_pI {tb : Bool} {lk : List AV} {σ : AS} {st : List AV} {k : Int → List AV → Option SR} (h : ∀ z st, a_mon tb lk σ (k z st)) : a_mon tb lk σ (pI st k) := by
  unfold pI; split
  · exact h _ _
  · trivial
theorem mon_pII {tb : Bool} {lk : List AV} {σ : AS} {st : List AV} {k : Int → Int → List AV → Option SR} (h : ∀ x z st, a_mon tb lk σ (k x z st)) : a_mon tb lk σ (pII st k) := by
  unfold pII; split
  · exact h _ _ _
  · trivial
theorem mon_pR {tb : Bool} {lk : List AV} {σ : AS} {st : List AV} {k : Nat → List AV → Option SR} (h : ∀ z st, a_mon tb lk σ (k z st)) : a_mon tb lk σ (pR st k) := by
  unfold pR; split
  · exact h _ _
  · trivial
theorem mon_pA {tb : Bool} {lk : List AV} {σ : AS} {st : List AV} {k : AV → List AV → Option SR} (h : ∀ z st, a_mon tb lk σ (k z st)) : a_mon tb lk σ (pA st k) := by
  unfold pA; split
  · exact h _ _
  · exact h _ _
  · trivial
theorem mon_pIR {tb : Bool} {lk : List AV} {σ : AS} {st : List AV} {k : Nat → Int → List AV → Option SR} (h : ∀ x z st, a_mon tb lk σ (k x z st)) : a_mon tb lk σ (pIR st k) := by
  unfold pIR; split
  · exact h _ _ _
  · trivial
theorem mon_pVIR {tb : Bool} {lk : List AV} {σ : AS} {st : List AV} {k : Nat → Int → AV → List AV → Option SR} (h : ∀ x z v st, a_mon tb lk σ (k x z v st)) : a_mon tb lk σ (pVIR st k) := by
  unfold pVIR; split
  · exact h _ _ _ _
  · trivial
theorem mon_pL {tb : Bool} {lk : List AV} {σ : AS} {st : List AV} {k : Int → List AV → Option SR} (h : ∀ z st, a_mon tb lk σ (k z st)) : a_mon tb lk σ (pL st k) := by
  unfold pL; split
  · exact h _ _
  · trivial
theorem mon_pLL {tb : Bool} {lk : List AV} {σ : AS} {st : List AV} {k : Int → Int → List AV → Option SR} (h : ∀ x z st, a_mon tb lk σ (k x z st)) : a_mon tb lk σ (pLL st k) := by
  unfold pLL; split
  · exact h _ _ _
  · trivial
theorem mon_pF {tb : Bool} {lk : List AV} {σ : AS} {st : List AV} {k : UInt32 → List AV → Option SR} (h : ∀ z st, a_mon tb lk σ (k z st)) : a_mon tb lk σ (pF st k) := by
  unfold pF; split
  · exact h _ _
  · trivial
theorem mon_pFF {tb : Bool} {lk : List AV} {σ : AS} {st : List AV} {k : UInt32 → UInt32 → List AV → Option SR} (h : ∀ x z st, a_mon tb lk σ (k x z st)) : a_mon tb lk σ (pFF st k) := by
  unfold pFF; split
  · exact h _ _ _
  · trivial
theorem mon_pD {tb : Bool} {lk : List AV} {σ : AS} {st : List AV} {k : UInt64 → List AV → Option SR} (h : ∀ z st, a_mon tb lk σ (k z st)) : a_mon tb lk σ (pD st k) := by
  unfold pD; split
  · exact h _ _
  · trivial
theorem mon_pDD {tb : Bool} {lk : List AV} {σ : AS} {st : List AV} {k : UInt64 → UInt64 → List AV → Option SR} (h : ∀ x z st, a_mon tb lk σ (k x z st)) : a_mon tb lk σ (pDD st k) := by
  unfold pDD; split
  · exact h _ _ _
  · trivial
theorem mon_pV {tb : Bool} {lk : List AV} {σ : AS} {st : List AV} {k : AV → List AV → Option SR} (h : ∀ z st, a_mon tb lk σ (k z st)) : a_mon tb lk σ (pV st k) := by
  unfold pV; split
  · exact h _ _
  · trivial
theorem mon_gI {tb : Bool} {lk : List AV} {σ : AS} {ls : List AV} {i : Nat} {k : Int → Option SR} (h : ∀ z, a_mon tb lk σ (k z)) : a_mon tb lk σ (gI ls i k) := by
  unfold gI; split
  · exact h _
  · trivial
theorem mon_gA {tb : Bool} {lk : List AV} {σ : AS} {ls : List AV} {i : Nat} {k : AV → Option SR} (h : ∀ z, a_mon tb lk σ (k z)) : a_mon tb lk σ (gA ls i k) := by
  unfold gA; split
  · exact h _
  · exact h _
  · trivial
theorem mon_gL {tb : Bool} {lk : List AV} {σ : AS} {ls : List AV} {i : Nat} {k : Int → Option SR} (h : ∀ z, a_mon tb lk σ (k z)) : a_mon tb lk σ (gL ls i k) := by
  unfold gL; split
  · exact h _
  · trivial
theorem mon_gF {tb : Bool} {lk : List AV} {σ : AS} {ls : List AV} {i : Nat} {k : UInt32 → Option SR} (h : ∀ z, a_mon tb lk σ (k z)) : a_mon tb lk σ (gF ls i k) := by
  unfold gF; split
  · exact h _
  · trivial
theorem mon_gD {tb : Bool} {lk : List AV} {σ : AS} {ls : List AV} {i : Nat} {k : UInt64 → Option SR} (h : ∀ z, a_mon tb lk σ (k z)) : a_mon tb lk σ (gD ls i k) := by
  unfold gD; split
  · exact h _
  · trivial
theorem mon_s1 {tb : Bool} {lk : List AV} {σ : AS} {ls : List AV} {i : Nat} {a : AV} {k : List AV → Option SR} (h : ∀ z, z.length = ls.length → a_mon tb lk σ (k z)) : a_mon tb lk σ (s1 ls i a k) := by
  unfold s1; split
  · exact h _ (by simp)
  · trivial
theorem mon_s2 {tb : Bool} {lk : List AV} {σ : AS} {ls : List AV} {i : Nat} {a : AV} {k : List AV → Option SR} (h : ∀ z, z.length = ls.length → a_mon tb lk σ (k z)) : a_mon tb lk σ (s2 ls i a k) := by
  unfold s2; split
  · exact h _ (by simp)
  · trivial
theorem mon_new {σ : AS} {k len n : Nat} : a_le σ (a_new σ k len n) := ⟨Nat.le_succ _, Nat.le_succ _, Nat.le_add_right _ _⟩
theorem mon_call {tb : Bool} {σ : AS} {y pc len : Nat} {ls st : List AV} : a_mon tb ls σ (a_call y pc len ls st σ) := by
  unfold a_call
  split
  · split
    · exact ⟨a_le.rf, rfl⟩
    · trivial
  · split
    · exact mon_pR fun _ _ => mon_ite (fun _ => mon_r rfl) (fun _ => mon_n)
    · split
      · split
        · exact mon_ite (fun _ => mon_x (a_le.of rfl) rfl) (fun _ => mon_n)
        · trivial
      · split
        · exact mon_pII fun _ _ _ => mon_ite (fun _ => mon_r rfl) (fun _ => mon_n)
        · split
          · exact mon_pII fun _ _ _ => mon_ite (fun _ => mon_r rfl) (fun _ => mon_n)
          · trivial
theorem a_step_mon (m pc : Nat) (i : Instr) (len : Nat) (ls st : List AV) (σ : AS) : a_mon (m_tabl m) ls σ (a_step m pc i len ls st σ) := by
  unfold a_step
  split
  all_goals repeat first
    | exact mon_r rfl
    | exact mon_r hz
    | exact mon_n
    | exact mon_call
    | exact mon_x (a_le.of rfl) rfl
    | exact mon_x mon_new rfl
    | exact a_le.rf
    | exact ⟨⟨Nat.le_refl _, Nat.le_succ _, Nat.le_add_right _ _⟩, hg.2⟩
    | refine mon_pI (fun _ _ => ?_)
    | refine mon_pII (fun _ _ _ => ?_)
    | refine mon_pR (fun _ _ => ?_)
    | refine mon_pA (fun _ _ => ?_)
    | refine mon_pIR (fun _ _ _ => ?_)
    | refine mon_pVIR (fun _ _ _ _ => ?_)
    | refine mon_pL (fun _ _ => ?_)
    | refine mon_pLL (fun _ _ _ => ?_)
    | refine mon_pF (fun _ _ => ?_)
    | refine mon_pFF (fun _ _ _ => ?_)
    | refine mon_pD (fun _ _ => ?_)
    | refine mon_pDD (fun _ _ _ => ?_)
    | refine mon_pV (fun _ _ => ?_)
    | refine mon_gI (fun _ => ?_)
    | refine mon_gA (fun _ => ?_)
    | refine mon_gL (fun _ => ?_)
    | refine mon_gF (fun _ => ?_)
    | refine mon_gD (fun _ => ?_)
    | refine mon_s1 (fun _ hz => ?_)
    | refine mon_s2 (fun _ hz => ?_)
    | refine mon_ite (fun hg => ?_) (fun _ => ?_)
    | split
theorem a_run_mon : ∀ (n : Nat) {m pc : Nat} {ls st : List AV} {σ σ1 : AS} {o : AO}, a_run n m pc ls st σ = some (o, σ1) → a_le σ σ1
  | 0, _, _, _, _, _, _, _, h => by simp [a_run] at h
  | n + 1, m, pc, ls, st, σ, σ1, o, h => by
    rw [a_run] at h
    split at h
    · cases h
    · rename_i i len hc
      have hm := a_step_mon m pc i len ls st σ
      split at h
      · cases h
      · rename_i pc1 ls1 st1 σ2 hs
        rw [hs] at hm
        exact a_le.trans hm.1 (a_run_mon n h)
      · rename_i v σ2 hs
        rw [hs] at hm
        cases h
        exact hm
      · rename_i v σ2 hs
        rw [hs] at hm
        cases h
        exact hm.1
      · rename_i y as len1 ls1 st1 σ2 hs
        rw [hs] at hm
        split at h
        · cases h
        · rename_i v σ3 hq
          exact a_le.trans hm.1 (a_le.trans (a_run_mon n hq) (a_run_mon n h))
        · rename_i e σ3 hq
          have h3 := a_le.trans hm.1 (a_run_mon n hq)
          split at h
          · split at h
            · cases h
            · cases h
              exact h3
          · exact a_le.trans h3 (a_run_mon n h)
/-- nothing is thrown out of a method with a table, nor out of a constructor -/
theorem a_run_tabl : ∀ (n : Nat) {m pc : Nat} {ls st : List AV} {σ σ1 : AS} {o : AO}, a_run n m pc ls st σ = some (o, σ1) → m_tabl m = true → ∃ v, o = .inl v
  | 0, _, _, _, _, _, _, _, h, _ => by simp [a_run] at h
  | n + 1, m, pc, ls, st, σ, σ1, o, h, ht => by
    rw [a_run] at h
    split at h
    · cases h
    · rename_i i len hc
      split at h
      · cases h
      · exact a_run_tabl n h ht
      · cases h
        exact ⟨_, rfl⟩
      · rename_i v σ2 hs
        have hm := a_step_mon m pc i len ls st σ
        rw [hs] at hm
        rw [hm.2] at ht
        cases ht
      · split at h
        · cases h
        · exact a_run_tabl n h ht
        · split at h
          · rw [if_pos ht] at h
            cases h
          · exact a_run_tabl n h ht
