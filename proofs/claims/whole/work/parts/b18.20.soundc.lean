/-! ===== the abstract machine is sound ===== -/
theorem a_len3 {m pc : Nat} {i : Instr} {len n : Nat} (hc : a_code m pc = some (i, len)) (hi : i = .invokevirtual n ∨ i = .invokespecial n ∨ i = .invokestatic n ∨ i = .new n) : len = 3 := by
  obtain ⟨hd, ho⟩ := a_code_dec hc
  have hl : a_len i = 0 ∨ len = a_len i := by
    unfold a_okI at ho
    rw [Bool.and_eq_true, Bool.or_eq_true, decide_eq_true_eq, decide_eq_true_eq] at ho
    exact ho.1
  rcases hi with rfl | rfl | rfl | rfl <;> exact hl.resolve_left (by show ¬ (3 : Nat) = 0; decide)
theorem a_nopl {m pc : Nat} {i : Instr} {len : Nat} {ls st : List AV} {σ : AS} {q : SR} (hp : a_plain m i = false) (hs : a_step m pc i len ls st σ = some q) : (∃ av σ1, q = .inr (.inl (av, σ1))) ∨ (∃ n x, i = .new n ∧ c_new (m_own m) n = some (.inr x) ∧ (a_sum st ≤ 8 ∧ m_tabl m = false) ∧ q = .inr (.inr (.inl (x, a_thr σ)))) ∨ (∃ n y, (i = .invokevirtual n ∨ i = .invokespecial n ∨ i = .invokestatic n) ∧ c_cal (m_own m) n = some y ∧ a_call y pc len ls st σ = some q) := by
  cases i with
  | ireturn =>
    simp only [a_step] at hs
    split at hs
    · obtain ⟨-, hs⟩ := a_ite hs
      exact Or.inl ⟨_, _, (Option.some.inj hs).symm⟩
    · cases hs
  | lreturn =>
    simp only [a_step] at hs
    split at hs
    · obtain ⟨-, hs⟩ := a_ite hs
      exact Or.inl ⟨_, _, (Option.some.inj hs).symm⟩
    · cases hs
  | freturn =>
    simp only [a_step] at hs
    split at hs
    · obtain ⟨-, hs⟩ := a_ite hs
      exact Or.inl ⟨_, _, (Option.some.inj hs).symm⟩
    · cases hs
  | dreturn =>
    simp only [a_step] at hs
    split at hs
    · obtain ⟨-, hs⟩ := a_ite hs
      exact Or.inl ⟨_, _, (Option.some.inj hs).symm⟩
    · cases hs
  | areturn =>
    simp only [a_step] at hs
    split at hs
    · obtain ⟨-, hs⟩ := a_ite hs
      exact Or.inl ⟨_, _, (Option.some.inj hs).symm⟩
    · cases hs
  | return_ =>
    simp only [a_step] at hs
    obtain ⟨-, hs⟩ := a_ite hs
    exact Or.inl ⟨_, _, (Option.some.inj hs).symm⟩
  | invokevirtual n =>
    simp only [a_step] at hs
    split at hs
    · rename_i y hy
      exact Or.inr (Or.inr ⟨n, y, Or.inl rfl, hy, hs⟩)
    · cases hs
  | invokespecial n =>
    simp only [a_step] at hs
    split at hs
    · rename_i y hy
      exact Or.inr (Or.inr ⟨n, y, Or.inr (Or.inl rfl), hy, hs⟩)
    · cases hs
  | invokestatic n =>
    simp only [a_step] at hs
    split at hs
    · rename_i y hy
      exact Or.inr (Or.inr ⟨n, y, Or.inr (Or.inr rfl), hy, hs⟩)
    · cases hs
  | new n =>
    cases hcn : c_new (m_own m) n with
    | none =>
      simp only [a_plain, hcn] at hp
      cases hp
    | some x =>
      cases x with
      | inl c1 =>
        simp only [a_plain, hcn] at hp
        cases hp
      | inr x =>
        simp only [a_step, hcn] at hs
        obtain ⟨h0, hs⟩ := a_ite hs
        exact Or.inr (Or.inl ⟨n, x, rfl, hcn, h0, (Option.some.inj hs).symm⟩)
  | _ => cases hp
theorem a_sound {l : Launch} (hfl : l.stackTraces = false) : ∀ n, a_bod l n
  | 0 => by
    intro m pc ls st σ o σ1 h
    simp [a_run] at h
  | n + 1 => by
    have ih := a_sound hfl n
    intro m pc ls st σ o σ1 h p e R s mi args below meth c D tA bs aS L0 n0 mc ms F hmc hms hls
    have hle0 := a_run_mon (n + 1) h
    rw [a_run] at h
    split at h
    · cases h
    · rename_i i len hc
      have hmon := a_step_mon m pc i len ls st σ
      have hm := a_code_lt hc
      obtain ⟨hj, hj2⟩ := a_codeJ hc
      split at h
      · cases h
      · rename_i pc1 ls1 st1 σ2 hs
        rw [hs] at hmon
        have hle2 := a_run_mon n h
        have hk := ih m pc1 ls1 st1 σ2 o σ1 h p e R s mi args below meth c D tA bs aS L0 n0 mc ms F hmc hms (hmon.2.trans hls)
        have hK : ∀ p1 l1 s1 z1, (Sum.inl (pc1, ls1, st1, σ2) : SR) = .inl (p1, l1, s1, z1) → a_Gd p l e R s mi args below meth c (vx_MQ below (a_Qc D tA bs aS L0 n0 o σ1) (a_XC D tA bs aS L0 n0 o σ1) args s mc ms (a_A bs)) D tA bs aS L0 n0 mc ms σ1.2.2.2.2.1 σ1.2.2.2.2.2 p1 l1 s1 z1 := by
          intro p1 l1 s1 z1 ez
          cases ez
          exact hk
        by_cases hp : a_plain m i = true
        · refine g_plain F hmc hms hc hp hs (fun p1 l1 s1 z1 ez => ?_) hK
          cases ez
          exact hle2.2
        · rcases a_nopl (by simpa using hp) hs with ⟨av, σ9, hz⟩ | ⟨n9, x, -, -, -, hz⟩ | ⟨n9, y, hi, hcal, hcl⟩
          · cases hz
          · cases hz
          · have hl3 : len = 3 := a_len3 (n := n9) hc (by rcases hi with h | h | h <;> simp [h])
            subst hl3
            obtain ⟨hd, -⟩ := a_code_dec hc
            rcases call_q hcl with ⟨h1, h2, -⟩ | ⟨-, -, hz⟩
            · rcases hi with rfl | rfl | rfl
              · simp only [a_okJ, hcal, Bool.and_eq_true, decide_eq_true_eq] at hj
                exact absurd hj.2.1.1.1 (by omega)
              · simp only [a_okJ, hcal, a_okR, Bool.and_eq_true, Bool.or_eq_true, decide_eq_true_eq] at hj
                have hy : y = 1000 := by
                  rcases hj.2.1 with q | q
                  · omega
                  · exact q
                subst hy
                have hrm := hj.2.2
                rw [if_neg (by omega), Bool.and_eq_true, decide_eq_true_eq, decide_eq_true_eq] at hrm
                exact g_oi F hrm hls hj.1 hcal hd hcl hK
              · simp only [a_okJ, hcal, a_okR, Bool.and_eq_true, Bool.or_eq_true, decide_eq_true_eq] at hj
                have hrm := hj.2.2
                rw [if_neg (by omega), Bool.and_eq_true, decide_eq_true_eq, decide_eq_true_eq] at hrm
                have hy : y = 1000 ∨ y = 1001 ∨ y = 1002 ∨ y = 1003 := by omega
                rcases hy with rfl | rfl | rfl | rfl
                · exact absurd hj.2.1 (by omega)
                · exact g_copy F hrm hls hj.1 hcal hd hcl hK
                · exact g_max F hle0.2 hmc hms hrm hls hj.1 hcal hd hcl hK
                · exact g_min F hle0.2 hmc hms hrm hls hj.1 hcal hd hcl hK
            · cases hz
      · rename_i v σ2 hs
        cases h
        by_cases hp : a_plain m i = true
        · exact g_plain F hmc hms hc hp hs (fun p1 l1 s1 z1 ez => nomatch ez) (fun p1 l1 s1 z1 ez => nomatch ez)
        · exact g_ret F hc (by simpa using hp) hs
      · rename_i x σ2 hs
        cases h
        by_cases hp : a_plain m i = true
        · exact g_plain F hmc hms hc hp hs (fun p1 l1 s1 z1 ez => nomatch ez) (fun p1 l1 s1 z1 ez => nomatch ez)
        · rcases a_nopl (by simpa using hp) hs with ⟨av, σ9, hz⟩ | ⟨n9, x9, rfl, hcn, h0, hz⟩ | ⟨n9, y, hi, hcal, hcl⟩
          · cases hz
          · cases hz
            have hl3 : len = 3 := a_len3 (n := n9) hc (by simp)
            subst hl3
            exact g_thr F hmc hms hls hc hcn h0
          · rcases call_q hcl with ⟨-, -, a, hz⟩ | ⟨-, -, hz⟩
            · cases hz
            · cases hz
      · rename_i y as len1 ls1 st1 σ2 hs
        by_cases hp : a_plain m i = true
        · exact g_plain F hmc hms hc hp hs (fun p1 l1 s1 z1 ez => nomatch ez) (fun p1 l1 s1 z1 ez => nomatch ez)
        · rcases a_nopl (by simpa using hp) hs with ⟨av, σ9, hz⟩ | ⟨n9, x9, -, -, -, hz⟩ | ⟨n9, y9, hi, hcal, hcl⟩
          · cases hz
          · cases hz
          · have hl3 : len = 3 := a_len3 (n := n9) hc (by rcases hi with h | h | h <;> simp [h])
            subst hl3
            rcases call_q hcl with ⟨-, -, a, hz⟩ | ⟨hy, hg, hz⟩
            · cases hz
            · cases hz
              have hcok := c_cal_ok hcal
              have hy3 : y < 359 ∧ y ≠ 350 := by
                rcases hcok with h | h | h | h | h
                · exact ⟨h.2.1, h.2.2.1⟩
                · exact absurd h.1 (by show ¬ y = 1000; omega)
                · exact absurd h.1 (by show ¬ y = 1001; omega)
                · exact absurd h.1 (by show ¬ y = 1002; omega)
                · exact absurd h.1 (by show ¬ y = 1003; omega)
              split at h
              · cases h
              · rename_i v σ3 hq
                have hle1 := a_run_mon n hq
                have hle2 := a_run_mon n h
                have hcon := a_con_of hfl ih hy3.1 hy3.2 hg.2.2.2.2 hq
                refine g_call F hmc hms hls hc hi hcal hy hg hcon (fun _ => ⟨v, rfl⟩) hle1 hle2 (fun v9 ez => ?_) (fun x ez => nomatch ez)
                cases ez
                exact ih m (pc + 3) ls (v.toList ++ st.drop (m_nargs y)) σ3 o σ1 h p e R s mi args below meth c D tA bs aS L0 n0 mc ms F hmc hms hls
              · rename_i x σ3 hq
                have hle1 := a_run_mon n hq
                have hcon := a_con_of hfl ih hy3.1 hy3.2 hg.2.2.2.2 hq
                have htb : m_tabl y = true → ∃ v : Option AV, (.inr x : AO) = .inl v := fun ht => a_run_tabl n hq ht
                split at h
                · rename_i hh
                  split at h
                  · cases h
                  · rename_i ht
                    cases h
                    refine g_call F hmc hms hls hc hi hcal hy hg hcon htb hle1 a_le.rf (fun v9 ez => nomatch ez) (fun x9 ez => ?_)
                    cases ez
                    exact Or.inl ⟨hh, by simpa using ht, rfl, rfl⟩
                · rename_i h9 hh
                  have hle2 := a_run_mon n h
                  refine g_call F hmc hms hls hc hi hcal hy hg hcon htb hle1 hle2 (fun v9 ez => nomatch ez) (fun x9 ez => ?_)
                  cases ez
                  exact Or.inr ⟨h9, hh, ih m h9 ls [a_x true] σ3 o σ1 h p e R s mi args below meth c D tA bs aS L0 n0 mc ms F hmc hms hls⟩
