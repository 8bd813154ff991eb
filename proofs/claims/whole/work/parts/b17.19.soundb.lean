/-! ===== a call, its answer or its exception ===== -/
theorem hand_split {m pc x h : Nat} (hm : m < 359) (hh : m_hand m pc x = some h) : ∃ pre z suf, m_hh m = pre ++ z :: suf ∧ z.2.2.1 = h ∧ z.1 ≤ pc ∧ pc < z.2.1 ∧ x_cls z.2.2.2 = x ∧ ∀ y ∈ pre, ¬ (y.1 ≤ pc ∧ pc < y.2.1 ∧ x_cls y.2.2.2 = x) := by
  have hmk := m_ok hm
  simp only [m_okM, Bool.and_eq_true, decide_eq_true_eq] at hmk
  obtain ⟨⟨⟨⟨⟨⟨-, hl⟩, -⟩, -⟩, -⟩, -⟩, -⟩ := hmk
  unfold m_hand at hh
  rw [hl, List.find?_map] at hh
  cases hf : (m_hh m).find? ((fun q : Nat × Nat × Nat × Nat => decide (q.1 ≤ pc) && decide (pc < q.2.1) && decide (q.2.2.2 = x)) ∘ fun q : Nat × Nat × Nat × Nat => (q.1, q.2.1, q.2.2.1, x_cls q.2.2.2)) with
  | none =>
    rw [hf] at hh
    cases hh
  | some z =>
    rw [hf] at hh
    obtain ⟨hz, pre, suf, e1, e2⟩ := List.find?_eq_some_iff_append.mp hf
    refine ⟨pre, z, suf, e1, Option.some.inj hh, ?_⟩
    simp only [Function.comp_apply, Bool.and_eq_true, decide_eq_true_eq] at hz
    refine ⟨hz.1.1, hz.1.2, hz.2, fun y hy hq => ?_⟩
    have h3 := e2 y hy
    simp only [Function.comp_apply, Bool.not_eq_true', Bool.and_eq_false_iff, decide_eq_false_iff_not] at h3
    omega
theorem hand_ok {m : Nat} (hm : m < 359) : ∀ q ∈ m_hh m, m_own m = 12 ∧ 1 ≤ x_cls q.2.2.2 ∧ x_cls q.2.2.2 ≤ 3 ∧ q.2.2.2 < 10000 ∧ q.2.2.2 ≠ 0 := by
  have hmk := m_ok hm
  simp only [m_okM, Bool.and_eq_true, decide_eq_true_eq, List.all_eq_true] at hmk
  obtain ⟨⟨⟨⟨⟨⟨-, -⟩, -⟩, h4⟩, -⟩, -⟩, -⟩ := hmk
  intro q hq
  have h5 := h4 q hq
  exact ⟨h5.1.1.1.1, h5.1.1.1.2, h5.1.1.2, h5.1.2, h5.2⟩
theorem x_cls_link {i : Nat} (h1 : 1 ≤ x_cls i) (hi : i < 10000) : Jvm.Cond.classLink (o_name 12) i (x_name (x_cls i)) ∈ w_all := by
  unfold x_cls at h1 ⊢
  split at h1
  · rename_i e he
    have h2 := c_new_ok he
    simp only [n_ok, (k_div hi).1, (k_div hi).2] at h2
    exact h2.1
  · omega
theorem m_init_hh : ∀ m, m < 359 → m_init m = true → m_hh m = [] := by decide +kernel
theorem map_len {α : Type} {o : Option α} {f : α → Nat} {n : Nat} (h : o.map (fun d => f d + 1) = some (n + 1)) : o.map f = some n := by
  cases o with
  | none => cases h
  | some d =>
    simp only [Option.map_some, Option.some.injEq] at h ⊢
    omega
theorem a_rcv_of {k : Nat} {as : List AV} {σ : AS} (h : a_rcv k as σ = true) (hk : k ≠ 0) : ∃ r as1, as = a_r r :: as1 ∧ (σ.1 r).1 = k := by
  unfold a_rcv at h
  rw [if_neg hk] at h
  split at h
  · rename_i r as1
    exact ⟨r, as1, rfl, of_decide_eq_true h⟩
  · cases h
theorem x_nc_of : ∀ a b, 1 ≤ a → a ≤ 3 → 1 ≤ b → b ≤ 3 → a ≠ b → (x_name a, x_name b) ∈ x_nc := fun a b h1 h2 h3 h4 h5 => by
  have ha : a = 1 ∨ a = 2 ∨ a = 3 := by omega
  have hb : b = 1 ∨ b = 2 ∨ b = 3 := by omega
  rcases ha with rfl | rfl | rfl <;> rcases hb with rfl | rfl | rfl <;> first | exact absurd rfl h5 | decide +kernel
theorem x_cast_B : ∀ x, 1 ≤ x → x ≤ 3 → Jvm.Cond.castable (x_name x) (x_name x) ∈ x_B := fun x h1 h2 => match x, h1, h2 with
  | 1, _, _ => by decide +kernel
  | 2, _, _ => by decide +kernel
  | 3, _, _ => by decide +kernel
section SS9
variable {p : Program} {l : Launch} {e : Env} {R : Room} {s : State} {mi : MethodId} {args : Array Value} {below : List Frame} {meth : Method} {c : Code} {D : va_G} {tA : Nat → ClassId} {bs : Nat} {aS L0 : Nat → Nat} {n0 mc ms : Nat} {m pc : Nat} {ls st : List AV} {σ : AS} {q : SR}
theorem g_hand {x : Nat} {o1 : AO} {σ2 σ3 : AS} {L1 : Nat → Nat} {H1 : Heap} {locs1 : List Loc} {cells slots : Nat} {lsC : Array Slot} {rest : List Value} {q9 : Addr} {ce : Cell} (F : a_Fx p l R s mi args meth c bs aS m) (hm : m < 359) (hn : n0 ≤ σ2.2.2.2.1) (hc1 : cells + σ3.2.2.2.2.1 ≤ mc + σ2.2.2.2.2.1) (hc2 : slots + σ3.2.2.2.2.2 ≤ ms + σ2.2.2.2.2.2) (h1 : 1 ≤ x) (h3 : x ≤ 3) (hex : a_ex L0 L1 n0) (hW : a_W D tA bs aS L1 σ2 s H1) (hS : va_S (a_A bs) s.heap H1 locs1) (hl : a_lo L1 σ2.2.2.2.1 ls lsC) (hce : H1[q9]? = some ce) (hcv : ce.vm = .none) (hcl : s.vm.findClass (x_name x) = some ce.cls)
    (kx : (m_hand m pc x = none ∧ m_tabl m = false ∧ o1 = .inr x ∧ σ3 = σ2) ∨ ∃ h, m_hand m pc x = some h ∧ a_Gd p l e R s mi args below meth c (vx_MQ below (a_Qc D tA bs aS L0 n0 o1 σ3) (a_XC D tA bs aS L0 n0 o1 σ3) args s mc ms (a_A bs)) D tA bs aS L0 n0 mc ms σ3.2.2.2.2.1 σ3.2.2.2.2.2 h ls [a_x true] σ2) :
    vx_W p l e R s mi args below meth c H1 locs1 cells slots (vx_MQ below (a_Qc D tA bs aS L0 n0 o1 σ3) (a_XC D tA bs aS L0 n0 o1 σ3) args s mc ms (a_A bs)) (F0 mi pc lsC rest) q9 := by
  obtain ⟨hx, hb, hml, hrt, hlk, hown, hts, hin, htab, hZ, hfl, hfr, hlo⟩ := F
  rcases kx with ⟨hh, ht, rfl, rfl⟩ | ⟨h, hh, kc⟩
  · have hhh := a_tab_hh hm ht
    refine vx_out (E := x_name x) ?_ hlk hce hcv hcl (fun t e1 e2 => ⟨x, L1, rfl, h1, h3, rfl, hex, by rw [e1]; exact hW.moved e2, by rw [e1]; exact hS.1, fun q q1 q2 => by rw [e1]; exact hS.2.1 q q1 q2⟩) hS.2.2 (by omega) (by omega)
    intro y hy
    rw [htab, hhh] at hy
    cases hy
  · obtain ⟨pre, z, suf, e1, e2, e3, e4, e5, e6⟩ := hand_split hm hh
    have hok := hand_ok hm
    have hoz := hok z (by rw [e1]; simp)
    rw [hoz.1] at hown
    have htab2 : c.exceptionTable.toList = tableOf pre ++ (⟨z.1, z.2.1, z.2.2.1, z.2.2.2⟩ : ExceptionTableEntry) :: tableOf suf := by
      rw [htab, e1]
      simp [tableOf]
    have hlz := x_cls_link hoz.2.1 hoz.2.2.2.1
    rw [e5] at hlz
    refine vx_catch (own := o_name 12) (name := x_name x) (E := x_name x) hown (tableOf pre) ⟨z.1, z.2.1, z.2.2.1, z.2.2.2⟩ (tableOf suf) htab2 (fun y hy => ?_) ?_ hoz.2.2.2.2 (hts _ hlz) (va_Nw.use rfl (hZ.2.2.2.2.2.2.1 _ (x_cast_B x h1 h3))) hce hcv hcl ?_
    · obtain ⟨y0, hy0, rfl⟩ := List.mem_map.mp hy
      have hoy := hok y0 (by rw [e1]; simp [hy0])
      by_cases hcov : covers (⟨y0.1, y0.2.1, y0.2.2.1, y0.2.2.2⟩ : ExceptionTableEntry) pc = true
      · right
        refine ⟨hoy.2.2.2.2, x_name (x_cls y0.2.2.2), hts _ (x_cls_link hoy.2.1 hoy.2.2.2.1), ?_⟩
        have hcov2 := hcov
        simp only [covers, Bool.and_eq_true, decide_eq_true_eq] at hcov2
        have hne : x ≠ x_cls y0.2.2.2 := fun ez => e6 y0 hy0 ⟨hcov2.1, hcov2.2, ez.symm⟩
        exact hZ.2.2.2.2.2.2.2.2 _ (x_nc_of x (x_cls y0.2.2.2) h1 h3 hoy.2.1 hoy.2.2.1 hne)
      · left
        simpa using hcov
    · simp only [covers, Bool.and_eq_true, decide_eq_true_eq]
      exact ⟨e3, e4⟩
    · show W p l e R s mi args below meth c H1 locs1 cells slots _ (F0 mi z.2.2.1 lsC [.ref q9])
      rw [e2]
      exact kc L1 H1 locs1 cells slots lsC [.ref q9] hn hex hW hS hc1 hc2 hl ⟨rfl, ⟨some q9, rfl⟩, trivial⟩
theorem g_call {i : Instr} {y n : Nat} {o1 o2 : AO} {σ2 σ3 : AS} (F : a_Fx p l R s mi args meth c bs aS m) (hmc : mc ≤ R.cells) (hms : ms ≤ R.slots) (hls : ls.length = m_maxL m) (hc : a_code m pc = some (i, 3)) (hi : i = .invokevirtual n ∨ i = .invokespecial n ∨ i = .invokestatic n) (hcal : c_cal (m_own m) n = some y) (hy : y < 1000)
    (hg : m_nargs y ≤ st.length ∧ a_sum (st.drop (m_nargs y)) ≤ 8 ∧ (st.take (m_nargs y)).all a_kn = true ∧ a_rcv (m_recv y) (st.take (m_nargs y)).reverse σ = true ∧ (a_lay (st.take (m_nargs y)).reverse).length ≤ m_maxL y)
    (hcon : a_con l y (st.take (m_nargs y)).reverse σ o2 σ2) (htb : m_tabl y = true → ∃ v, o2 = .inl v) (hle : a_le σ σ2) (hle3 : a_le σ2 σ3)
    (kk : ∀ v, o2 = .inl v → a_Gd p l e R s mi args below meth c (vx_MQ below (a_Qc D tA bs aS L0 n0 o1 σ3) (a_XC D tA bs aS L0 n0 o1 σ3) args s mc ms (a_A bs)) D tA bs aS L0 n0 mc ms σ3.2.2.2.2.1 σ3.2.2.2.2.2 (pc + 3) ls (v.toList ++ st.drop (m_nargs y)) σ2) (kx : ∀ x, o2 = .inr x → (m_hand m pc x = none ∧ m_tabl m = false ∧ o1 = .inr x ∧ σ3 = σ2) ∨ ∃ h, m_hand m pc x = some h ∧ a_Gd p l e R s mi args below meth c (vx_MQ below (a_Qc D tA bs aS L0 n0 o1 σ3) (a_XC D tA bs aS L0 n0 o1 σ3) args s mc ms (a_A bs)) D tA bs aS L0 n0 mc ms σ3.2.2.2.2.1 σ3.2.2.2.2.2 h ls [a_x true] σ2) : a_Gd p l e R s mi args below meth c (vx_MQ below (a_Qc D tA bs aS L0 n0 o1 σ3) (a_XC D tA bs aS L0 n0 o1 σ3) args s mc ms (a_A bs)) D tA bs aS L0 n0 mc ms σ3.2.2.2.2.1 σ3.2.2.2.2.2 pc ls st σ := by
  obtain ⟨hd, ho⟩ := a_code_dec hc
  obtain ⟨hj, hj2⟩ := a_codeJ hc
  have hm := a_code_lt hc
  obtain ⟨g1, g2, g3, g4, g5⟩ := hg
  intro L H locs cells slots lsC stC hn hx0 hW hS hc1 hc2 hl hst
  obtain ⟨hst1, hst2⟩ := a_st_cut (m_nargs y) hst
  have hlen := a_st_take hst g1
  have esp : stC = stC.take (m_nargs y) ++ stC.drop (m_nargs y) := (List.take_append_drop _ _).symm
  generalize stC.take (m_nargs y) = tv at hst1 hlen esp
  generalize stC.drop (m_nargs y) = rest at hst2 esp
  subst esp
  have hsum : (rest.map fun v => v.category).sum ≤ 8 := by rw [a_st_sum hst2]; exact g2
  have hrev := a_st_rev hst1
  have hls2 : lsC.size = m_maxL m := hl.1.trans hls
  have hf : cells + (σ2.2.2.2.2.1 - σ.2.2.2.2.1) ≤ R.cells ∧ slots + (σ2.2.2.2.2.2 - σ.2.2.2.2.2) ≤ R.slots := by
    have q1 := hle.2.1
    have q2 := hle.2.2
    have q3 := hle3.2.1
    have q4 := hle3.2.2
    omega
  have fin : ∀ (a : Array Value), vx_Run p l e R s mi args below meth c H locs cells slots (σ2.2.2.2.2.1 - σ.2.2.2.2.1) (σ2.2.2.2.2.2 - σ.2.2.2.2.2) (F0 mi pc lsC (tv ++ rest)) rest (a_Qc D tA bs aS L σ.2.2.2.1 o2 σ2 a) (a_XC D tA bs aS L σ.2.2.2.1 o2 σ2) (a_A bs) → W p l e R s mi args below meth c H locs cells slots (vx_MQ below (a_Qc D tA bs aS L0 n0 o1 σ3) (a_XC D tA bs aS L0 n0 o1 σ3) args s mc ms (a_A bs)) (F0 mi pc lsC (tv ++ rest)) := by
    intro a hr
    have q1 := hle.2.1
    have q2 := hle.2.2
    have q0 := hle.1
    refine a_after (len := 3) hr hS hn hx0 hle hl hst2 (by omega) (by omega) hc1 hc2 kk (fun x L1 H1 locs1 q9 ce ho h1 h3 hex hW1 hS1 hl1 hce hcv hcl => ?_)
    exact g_hand F hm (Nat.le_trans hn q0) (by omega) (by omega) h1 h3 hex hW1 hS1 hl1 hce hcv hcl (kx x ho)
  have hcok := c_cal_ok hcal
  have hn4 : n < 10000 := by
    rcases hi with rfl | rfl | rfl <;> simp only [a_okJ, Bool.and_eq_true, decide_eq_true_eq] at hj <;> exact hj.1
  simp only [c_ok, (k_div hn4).1, (k_div hn4).2] at hcok
  have hkind : (i = .invokevirtual n → m_kind y = 1 ∧ m_tabl y = false) ∧ (i = .invokespecial n → m_kind y = 2) ∧ (i = .invokestatic n → m_kind y = 0) ∧ m_fr y + 1 ≤ m_fr m ∧ 8 + (m_maxL y + 11) + m_lo y ≤ m_lo m := by
    rcases hi with rfl | rfl | rfl <;> simp only [a_okJ, hcal, a_okR, if_pos hy, Bool.and_eq_true, Bool.or_eq_true, decide_eq_true_eq] at hj
    · exact ⟨fun _ => ⟨hj.2.1.1.2, hj.2.2⟩, (fun h => nomatch h), (fun h => nomatch h), hj.2.1.2⟩
    · refine ⟨(fun h => nomatch h), fun _ => ?_, (fun h => nomatch h), hj.2.2⟩
      rcases hj.2.1 with h | h
      · exact h.2
      · omega
    · refine ⟨(fun h => nomatch h), (fun h => nomatch h), fun _ => ?_, hj.2.2⟩
      rcases hj.2.1 with h | h
      · exact h.2
      · omega
  obtain ⟨kv, ki, ks, hRm⟩ := hkind
  rcases hcok with ⟨-, hy3, hy35, hini, hpl, hcl, hbr⟩ | h | h | h | h
  · have hrl : tv.reverse.length = m_nargs y := by rw [List.length_reverse]; exact hlen
    rcases hi with rfl | rfl | rfl
    · obtain ⟨hk1, hk2⟩ := kv rfl
      rcases hbr with ⟨hb0, -⟩ | ⟨-, hb1, hb2, hb3, hb4, hb5⟩ | ⟨hb0, -⟩
      · omega
      · have hrz : m_recv y ≠ 0 := by rcases hb5 with h | h <;> omega
        obtain ⟨r, as1, ea, hkr⟩ := a_rcv_of g4 hrz
        rw [ea] at hrev hcon
        obtain ⟨v1, ev, hq, h9⟩ := st_r hrev
        rw [ev] at hrev hrl
        have hln : (parseMethodDescriptor (m_name y).desc).map (fun d => d.parameters.length) = some v1.length := map_len (by rw [hb1, ← hrl]; rfl)
        have hr := a_run_v (e := e) (below := below) (vs := v1) (rest := rest) (cells := cells) (slots := slots) (locs := locs) F hls2 hd hy3 hy35 hk2 hini hcl hln hb2 hb3 hb4 hkr hb5 hRm hcon hW hS hrev hsum hf
        rw [← ev, List.reverse_reverse] at hr
        exact fin _ hr
      · omega
    · have hk2 := ki rfl
      rcases hbr with ⟨hb0, -⟩ | ⟨hb0, -⟩ | ⟨-, hb1, hb2, hb3, hb4, hb5⟩
      · omega
      · omega
      · have hrz : m_recv y ≠ 0 := fun z => by
          unfold m_kind at hk2
          rw [if_pos z] at hk2
          cases hk2
        have hinit : m_init y = true := by
          unfold m_kind at hk2
          rw [if_neg hrz] at hk2
          split at hk2
          · assumption
          · cases hk2
        obtain ⟨v, rfl⟩ := htb (by unfold m_tabl; rw [hinit]; simp)
        obtain ⟨r, as1, ea, hkr⟩ := a_rcv_of g4 hrz
        have hr0 : r ≠ 0 := fun z => by
          rw [z, hW.2.2.2.2.2.2.1] at hkr
          exact hrz hkr.symm
        rw [ea] at hrev hcon
        obtain ⟨v1, ev, hq, h9⟩ := st_r hrev
        rw [ev] at hrev hrl
        have hln : (parseMethodDescriptor (m_name y).desc).map (fun d => d.parameters.length) = some v1.length := map_len (by rw [hb3, ← hrl]; rfl)
        have hr := a_run_i (e := e) (below := below) (vs := v1) (rest := rest) (cells := cells) (slots := slots) (locs := locs) F hls2 hn4 hd hy3 hy35 hini hcl hln hb1 hb2 (m_init_hh y hy3 hinit) hb5 hb4 hr0 hRm hcon hW hS hrev hsum hf
        rw [← ev, List.reverse_reverse] at hr
        exact fin _ hr
    · have hk2 := ks rfl
      rcases hbr with ⟨-, hb1, hb2, hb3⟩ | ⟨hb0, -⟩ | ⟨hb0, -⟩
      · have hr := a_run_s (e := e) (below := below) (vs := tv.reverse) (rest := rest) (cells := cells) (slots := slots) (locs := locs) F hls2 hd hy3 hy35 hini hcl (by rw [hrl]; exact hb1) hb2 hb3 hRm hcon hW hS hrev hsum hf
        rw [List.reverse_reverse] at hr
        exact fin _ hr
      · omega
      · omega
  · exact absurd h.1 (by omega)
  · exact absurd h.1 (by omega)
  · exact absurd h.1 (by omega)
  · exact absurd h.1 (by omega)
end SS9
