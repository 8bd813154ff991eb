/-! ===== calls ===== -/
theorem met_imp {l : Launch} {x : MethodName} {S : Spec} {P : Array Value → State → Prop} {K : Program → Env → List Frame → State → Array Value → Prop} {Q Q' : Array Value → State → Outcome → State → Prop}
    (h : MetFree l x S P K Q) (hq : ∀ a s o s', Q a s o s' → Q' a s o s') : MetFree l x S P K Q' := by
  intro p e ha hc hk s m args below hf happ hP hK
  obtain ⟨n, o, h1, h2, h3, h4⟩ := h p e ha hc hk s m args below hf happ hP hK
  exact ⟨n, o, h1, h2, h3, hq _ _ _ _ h4⟩
theorem a_Pc_bl {D : va_G} {tA : Nat → ClassId} {bs : Nat} {aS L : Nat → Nat} {σ : AS} {as : List AV} : FrameBlind (a_Pc D tA bs aS L σ as) := by
  rintro a U g mk ⟨vs, rfl, h1, h2, h3⟩
  have hW : U.WarmedH (U.calling g mk vs.toArray).vm := State.WarmedH.refl U
  exact ⟨vs, rfl, h1, h2.moved hW.alike, h3.warm hW⟩
theorem a_met {l : Launch} {m : Nat} {as : List AV} {σ σ1 : AS} {av : Option AV} (h : a_con l m as σ (.inl av) σ1) (D : va_G) (tA : Nat → ClassId) (bs : Nat) (aS L : Nat → Nat) : Met l (m_name m) (m_word m :: w_all) (m_rm m (σ1.2.2.2.2.1 - σ.2.2.2.2.1) (σ1.2.2.2.2.2 - σ.2.2.2.2.2)) (a_Pc D tA bs aS L σ as) (a_Qc D tA bs aS L σ.2.2.2.1 (.inl av) σ1) (σ1.2.2.2.2.1 - σ.2.2.2.2.1) (σ1.2.2.2.2.2 - σ.2.2.2.2.2) (a_A bs) := by
  refine met_imp (h D tA bs aS L) ?_
  rintro a s o s' (h1 | ⟨q, -, E, ce, L9, ⟨x, L1, ho, -⟩, -⟩)
  · exact h1
  · cases ho
theorem vx_ofrun {p : Program} {l : Launch} {e : Env} {R : Room} {s : State} {m : MethodId} {args : Array Value} {below : List Frame} {meth : Method} {c : Code} {H : Heap} {locs : List Loc} {cells slots mc ms : Nat} {g : JFrame} {rest : List Value} {Qa : State → Outcome → State → Prop} {XC : String → State → State → Prop} {free : Addr → Prop}
    (h : va_Run p l e R s m args below meth c H locs cells slots mc ms g rest Qa free) : vx_Run p l e R s m args below meth c H locs cells slots mc ms g rest Qa XC free := fun T hT X => Or.inl (h T hT X)
theorem a_st_take {L : Nat → Nat} {n k : Nat} {as : List AV} {vs : List Value} (h : a_st L n as vs) (hk : k ≤ as.length) : (vs.take k).length = k := by
  rw [List.length_take, a_st_len h]
  omega
theorem a_wsS {o i y : Nat} (hy : y < 359) (hy2 : y ≠ 350) (h1 : Jvm.Cond.methodLink (o_name o) i (m_name y) ∈ w_all) (h2 : Jvm.Cond.static (m_name y) ∈ w_all) (h3 : Jvm.Cond.initialized (m_name y).cls ∈ w_all) : ∀ w ∈ va_wsS (o_name o) i (m_name y) (m_word y :: w_all), w ∈ w_all := by
  intro w hw
  unfold va_wsS at hw
  rcases List.mem_append.mp hw with h | h
  · simp only [List.mem_cons, List.not_mem_nil, or_false] at h
    rcases h with rfl | rfl | rfl
    · exact h1
    · exact h2
    · exact h3
  · rcases List.mem_cons.mp h with rfl | h
    · exact v_code hy hy2
    · exact h
theorem a_wsY {y : Nat} (hy : y < 359) (hy2 : y ≠ 350) : ∀ w ∈ m_word y :: w_all, w ∈ w_all := fun w hw => by
  rcases List.mem_cons.mp hw with rfl | h
  · exact v_code hy hy2
  · exact h
theorem a_tab_hh {m : Nat} (h : m < 359) (ht : m_tabl m = false) : m_hh m = [] := by
  have hmk := m_ok h
  simp only [m_okM, Bool.and_eq_true, decide_eq_true_eq] at hmk
  obtain ⟨⟨⟨⟨⟨⟨-, -⟩, hh2⟩, -⟩, -⟩, -⟩, -⟩ := hmk
  simp only [m_tabl, Bool.or_eq_false_iff] at ht
  rw [ht.1] at hh2
  have h2 : (m_hh m).isEmpty = true := by
    cases h3 : (m_hh m).isEmpty
    · rw [h3] at hh2; cases hh2
    · rfl
  exact List.isEmpty_iff.mp h2
section SY
variable {p : Program} {l : Launch} {e : Env} {R : Room} {s : State} {mi : MethodId} {args : Array Value} {below : List Frame} {meth : Method} {c : Code} {D : va_G} {tA : Nat → ClassId} {bs : Nat} {aS L0 : Nat → Nat} {n0 mc ms cE sE : Nat} {m pc : Nat} {ls st : List AV} {σ : AS} {q : SR} {cc : ByteArray}
theorem a_pre {L : Nat → Nat} {H : Heap} {locs : List Loc} {as : List AV} {vs : List Value} (F : a_Fx p l R s mi args meth c bs aS m) (hW : a_W D tA bs aS L σ s H) (hS : va_S (a_A bs) s.heap H locs) (hst : a_st L σ.2.2.2.1 as vs) : ∀ U : State, U.heap = H → s.WarmedH U.vm → a_Pc D tA bs aS L σ as vs.toArray U := by
  intro U hU hWU
  obtain ⟨-, -, -, -, -, -, -, -, -, hZ, -⟩ := F
  refine ⟨vs, rfl, hst, ?_, ?_⟩
  · rw [hU]; exact hW.moved hWU.alike
  · rw [hU]; exact (hZ.kept hS.2.1).warm hWU
theorem a_run_s {i y : Nat} {o1 : AO} {σ2 : AS} {L : Nat → Nat} {H : Heap} {locs : List Loc} {cells slots : Nat} {lsC : Array Slot} {as : List AV} {vs rest : List Value} (F : a_Fx p l R s mi args meth c bs aS m) (hls : lsC.size = m_maxL m) (hd : decode (m_bytes m) pc = .ok (.invokestatic i, 3))
    (hy : y < 359) (hy2 : y ≠ 350) (hini : Jvm.Cond.initialized (m_name y).cls ∈ w_all) (hcl : (m_name y).cls ≠ "java/lang/invoke/MethodHandle" ∧ (m_name y).cls ≠ "java/lang/invoke/VarHandle") (hlen : (parseMethodDescriptor (m_name y).desc).map (fun d => d.parameters.length) = some vs.length) (hlk : Jvm.Cond.methodLink (o_name (m_own m)) i (m_name y) ∈ w_all) (hsta : Jvm.Cond.static (m_name y) ∈ w_all)
    (hRm : m_fr y + 1 ≤ m_fr m ∧ 8 + (m_maxL y + 11) + m_lo y ≤ m_lo m) (hcon : a_con l y as σ o1 σ2) (hW : a_W D tA bs aS L σ s H) (hS : va_S (a_A bs) s.heap H locs) (hst : a_st L σ.2.2.2.1 as vs) (hsum : (rest.map fun v => v.category).sum ≤ 8)
    (hf : cells + (σ2.2.2.2.2.1 - σ.2.2.2.2.1) ≤ R.cells ∧ slots + (σ2.2.2.2.2.2 - σ.2.2.2.2.2) ≤ R.slots) :
    vx_Run p l e R s mi args below meth c H locs cells slots (σ2.2.2.2.2.1 - σ.2.2.2.2.1) (σ2.2.2.2.2.2 - σ.2.2.2.2.2) (F0 mi pc lsC (vs.reverse ++ rest)) rest (a_Qc D tA bs aS L σ.2.2.2.1 o1 σ2 vs.toArray) (a_XC D tA bs aS L σ.2.2.2.1 o1 σ2) (a_A bs) := by
  have hp : PreS s H (a_Pc D tA bs aS L σ as) vs := ⟨a_Pc_bl, a_pre F hW hS hst⟩
  obtain ⟨hx, hb, hml, -, -, hown, hts, -, -, -, -, hfr, hlo⟩ := F
  have hG : GoodIn w_all (va_wsS (o_name (m_own m)) i (m_name y) (m_word y :: w_all)) := goodIn_all (a_wsS hy hy2 hlk hsta hini)
  by_cases he : (m_hh y).isEmpty = true
  · have hwd : m_word y = .code (m_name y) (m_bytes y) (m_maxL y) (m_retT y) := by unfold m_word; rw [if_pos he]
    have cw := va_cwS (R := R) (s := s) (args := args) (own := o_name (m_own m)) (index := i) (y := m_name y) (bytes := m_bytes y) (maxL := m_maxL y) (ret := m_retT y) (mc := σ2.2.2.2.2.1 - σ.2.2.2.2.1) (ms := σ2.2.2.2.2.2 - σ.2.2.2.2.2) (rm := m_rm y (σ2.2.2.2.2.1 - σ.2.2.2.2.1) (σ2.2.2.2.2.2 - σ.2.2.2.2.2)) vs.length hts hG (by rw [hwd]) rfl rfl ⟨hcl.1, hcl.2, hlen⟩ ⟨Nat.le_trans hRm.1 hfr, Nat.le_trans hRm.2 hlo⟩
    exact vx_runS (cc := m_bytes m) (nL := m_maxL m) (Ts := w_all) (own := o_name (m_own m)) ⟨hx, hb, hml, hown, hts⟩ (hcon D tA bs aS L) cw hp rfl rfl hls rfl (lv_room hsum) hd hf
  · have hwd : m_word y = .codeWith (m_name y) (m_bytes y) (m_maxL y) (m_retT y) (m_hh y) := by unfold m_word; rw [if_neg he]
    have cw := vx_cwSW (R := R) (s := s) (args := args) (own := o_name (m_own m)) (index := i) (y := m_name y) (bytes := m_bytes y) (maxL := m_maxL y) (ret := m_retT y) (hh := m_hh y) (mc := σ2.2.2.2.2.1 - σ.2.2.2.2.1) (ms := σ2.2.2.2.2.2 - σ.2.2.2.2.2) (rm := m_rm y (σ2.2.2.2.2.1 - σ.2.2.2.2.1) (σ2.2.2.2.2.2 - σ.2.2.2.2.2)) vs.length hts hG (by rw [hwd]) rfl rfl ⟨hcl.1, hcl.2, hlen⟩ ⟨Nat.le_trans hRm.1 hfr, Nat.le_trans hRm.2 hlo⟩
    exact vx_runSX (cc := m_bytes m) (nL := m_maxL m) (Ts := w_all) (own := o_name (m_own m)) ⟨hx, hb, hml, hown, hts⟩ (hcon D tA bs aS L) cw hp rfl rfl hls rfl (lv_room hsum) hd hf
/-- the receiver's cell -/
theorem a_rcell {L : Nat → Nat} {H : Heap} {r y : Nat} (hW : a_W D tA bs aS L σ s H) (hk : (σ.1 r).1 = m_recv y) (hy : (1 ≤ m_recv y ∧ m_recv y ≤ 11 ∧ (m_name y).cls = k_name (m_recv y - 1)) ∨ (m_recv y = 25 ∧ (m_name y).cls = "java/lang/String")) : r ≠ 0 ∧ ∃ cellB : Cell, H[L r]? = some cellB ∧ cellB.vm.isStatics = false ∧ s.vm.findClass (m_name y).cls = some cellB.cls := by
  obtain ⟨hK0, hA0, hb0, hc0, hj0, hf0, hz0, hn17, hg0, hr0, haS⟩ := hW
  have hr00 : r ≠ 0 := fun z => by subst z; omega
  refine ⟨hr00, ?_⟩
  have hcell := hc0 r (by omega)
  unfold a_cell at hcell
  rw [hk] at hcell
  rcases hy with ⟨h1, h2, h3⟩ | ⟨h1, h3⟩
  · rw [if_pos h2] at hcell
    obtain ⟨hbs, cell, q1, q2, q3, q4⟩ := hcell
    obtain ⟨hS1, hfc, kC, hkC, hkind⟩ := hK0.1 (m_recv y - 1) _ (k_cl (m_recv y - 1) (by omega))
    refine ⟨cell, q1, by rw [q3]; rfl, ?_⟩
    rw [h3, q2]
    exact hfc
  · rw [if_neg (by omega), if_neg (by omega), if_pos h1] at hcell
    obtain ⟨⟨cell, b1, b2, b3, -⟩, -⟩ := hcell
    exact ⟨cell, b1, b2, by rw [h3]; exact b3⟩
theorem a_run_v {i y r : Nat} {o1 : AO} {σ2 : AS} {L : Nat → Nat} {H : Heap} {locs : List Loc} {cells slots : Nat} {lsC : Array Slot} {as : List AV} {vs rest : List Value} (F : a_Fx p l R s mi args meth c bs aS m) (hls : lsC.size = m_maxL m) (hd : decode (m_bytes m) pc = .ok (.invokevirtual i, 3))
    (hy : y < 359) (hy2 : y ≠ 350) (hyt : m_tabl y = false) (hini : Jvm.Cond.initialized (m_name y).cls ∈ w_all) (hcl : (m_name y).cls ≠ "java/lang/invoke/MethodHandle" ∧ (m_name y).cls ≠ "java/lang/invoke/VarHandle") (hlen : (parseMethodDescriptor (m_name y).desc).map (fun d => d.parameters.length) = some vs.length) (hlk : Jvm.Cond.methodLink (o_name (m_own m)) i (m_name y) ∈ w_all)
    (hin : Jvm.Cond.instanceMethod (m_name y) ∈ w_all) (hse : Jvm.Cond.selects (m_name y).cls (m_name y) (m_name y) ∈ w_all) (hk : (σ.1 r).1 = m_recv y) (hrc : (1 ≤ m_recv y ∧ m_recv y ≤ 11 ∧ (m_name y).cls = k_name (m_recv y - 1)) ∨ (m_recv y = 25 ∧ (m_name y).cls = "java/lang/String"))
    (hRm : m_fr y + 1 ≤ m_fr m ∧ 8 + (m_maxL y + 11) + m_lo y ≤ m_lo m) (hcon : a_con l y (a_r r :: as) σ o1 σ2) (hW : a_W D tA bs aS L σ s H) (hS : va_S (a_A bs) s.heap H locs) (hst : a_st L σ.2.2.2.1 (a_r r :: as) (a_null L r :: vs)) (hsum : (rest.map fun v => v.category).sum ≤ 8)
    (hf : cells + (σ2.2.2.2.2.1 - σ.2.2.2.2.1) ≤ R.cells ∧ slots + (σ2.2.2.2.2.2 - σ.2.2.2.2.2) ≤ R.slots) :
    vx_Run p l e R s mi args below meth c H locs cells slots (σ2.2.2.2.2.1 - σ.2.2.2.2.1) (σ2.2.2.2.2.2 - σ.2.2.2.2.2) (F0 mi pc lsC ((a_null L r :: vs).reverse ++ rest)) rest (a_Qc D tA bs aS L σ.2.2.2.1 o1 σ2 (a_null L r :: vs).toArray) (a_XC D tA bs aS L σ.2.2.2.1 o1 σ2) (a_A bs) := by
  obtain ⟨hr0, hcell⟩ := a_rcell hW hk hrc
  have hpre := a_pre F hW hS hst
  rw [a_null_pos hr0] at hpre ⊢
  have hp : PreV s H (m_name y).cls (L r) (a_Pc D tA bs aS L σ (a_r r :: as)) vs := ⟨a_Pc_bl, hcell, hpre⟩
  obtain ⟨hx, hb, hml, -, -, hown, hts, -, -, -, -, hfr, hlo⟩ := F
  have hwd : m_word y = .code (m_name y) (m_bytes y) (m_maxL y) (m_retT y) := by
    unfold m_word
    rw [a_tab_hh hy hyt]
    rfl
  have cb := callB_of (R := R) (s := s) (args := args) (own := o_name (m_own m)) (index := i) (y := m_name y) (bytes := m_bytes y) (maxL := m_maxL y) (ret := m_retT y) (mc := σ2.2.2.2.2.1 - σ.2.2.2.2.1) (ms := σ2.2.2.2.2.2 - σ.2.2.2.2.2) (rm := m_rm y (σ2.2.2.2.2.1 - σ.2.2.2.2.1) (σ2.2.2.2.2.2 - σ.2.2.2.2.2)) (Ts := w_all) (ws := m_word y :: w_all) vs.length hts (goodIn_all (a_wsY hy hy2)) (by rw [hwd]) rfl rfl (hts _ hini) (hts _ hlk) ⟨hcl.1, hcl.2, hlen⟩ ⟨Nat.le_trans hRm.1 hfr, Nat.le_trans hRm.2 hlo⟩
  exact vx_runV (cc := m_bytes m) (nL := m_maxL m) (Ts := w_all) (own := o_name (m_own m)) ⟨hx, hb, hml, hown, hts⟩ (hcon D tA bs aS L) ⟨cb, hts _ hin, hts _ hse⟩ hp rfl rfl hls (by simp) (lv_room hsum) hd hf
theorem a_run_i {i y r : Nat} {av : Option AV} {σ2 : AS} {L : Nat → Nat} {H : Heap} {locs : List Loc} {cells slots : Nat} {lsC : Array Slot} {as : List AV} {vs rest : List Value} (F : a_Fx p l R s mi args meth c bs aS m) (hls : lsC.size = m_maxL m) (hi : i < 10000) (hd : decode (m_bytes m) pc = .ok (.invokespecial i, 3))
    (hy : y < 359) (hy2 : y ≠ 350) (hini : Jvm.Cond.initialized (m_name y).cls ∈ w_all) (hcl : (m_name y).cls ≠ "java/lang/invoke/MethodHandle" ∧ (m_name y).cls ≠ "java/lang/invoke/VarHandle") (hlen : (parseMethodDescriptor (m_name y).desc).map (fun d => d.parameters.length) = some vs.length) (hnm : (m_name y).name = "<init>") (hret : m_retT y = none) (hhh : m_hh y = [])
    (hlk : Jvm.Cond.methodLink (o_name (m_own m)) i (m_name y) ∈ w_all ∨ ∃ host, (m_own m * 10000 + i, y, host) ∈ x_nest) (hin : Jvm.Cond.instanceMethod (m_name y) ∈ w_all) (hr0 : r ≠ 0)
    (hRm : m_fr y + 1 ≤ m_fr m ∧ 8 + (m_maxL y + 11) + m_lo y ≤ m_lo m) (hcon : a_con l y (a_r r :: as) σ (.inl av) σ2) (hW : a_W D tA bs aS L σ s H) (hS : va_S (a_A bs) s.heap H locs) (hst : a_st L σ.2.2.2.1 (a_r r :: as) (a_null L r :: vs)) (hsum : (rest.map fun v => v.category).sum ≤ 8)
    (hf : cells + (σ2.2.2.2.2.1 - σ.2.2.2.2.1) ≤ R.cells ∧ slots + (σ2.2.2.2.2.2 - σ.2.2.2.2.2) ≤ R.slots) :
    vx_Run p l e R s mi args below meth c H locs cells slots (σ2.2.2.2.2.1 - σ.2.2.2.2.1) (σ2.2.2.2.2.2 - σ.2.2.2.2.2) (F0 mi pc lsC ((a_null L r :: vs).reverse ++ rest)) rest (a_Qc D tA bs aS L σ.2.2.2.1 (.inl av) σ2 (a_null L r :: vs).toArray) (a_XC D tA bs aS L σ.2.2.2.1 (.inl av) σ2) (a_A bs) := by
  have hpre := a_pre F hW hS hst
  rw [a_null_pos hr0] at hpre ⊢
  have hp : PreS s H (a_Pc D tA bs aS L σ (a_r r :: as)) (.ref (L r) :: vs) := ⟨a_Pc_bl, hpre⟩
  obtain ⟨hx, hb, hml, -, -, hown, hts, -, -, hZ, -, hfr, hlo⟩ := F
  have hwd : m_word y = .code (m_name y) (m_bytes y) (m_maxL y) none := by
    unfold m_word
    rw [hhh, hret]
    rfl
  refine vx_ofrun ?_
  rcases hlk with hlk | ⟨host, hlk⟩
  · have cb := callB_of (R := R) (s := s) (args := args) (own := o_name (m_own m)) (index := i) (y := m_name y) (bytes := m_bytes y) (maxL := m_maxL y) (ret := none) (mc := σ2.2.2.2.2.1 - σ.2.2.2.2.1) (ms := σ2.2.2.2.2.2 - σ.2.2.2.2.2) (rm := m_rm y (σ2.2.2.2.2.1 - σ.2.2.2.2.1) (σ2.2.2.2.2.2 - σ.2.2.2.2.2)) (Ts := w_all) (ws := m_word y :: w_all) vs.length hts (goodIn_all (a_wsY hy hy2)) (by rw [hwd]) rfl rfl (hts _ hini) (hts _ hlk) ⟨hcl.1, hcl.2, hlen⟩ ⟨Nat.le_trans hRm.1 hfr, Nat.le_trans hRm.2 hlo⟩
    exact va_runI (cc := m_bytes m) (nL := m_maxL m) (Ts := w_all) (own := o_name (m_own m)) ⟨hx, hb, hml, hown, hts⟩ (a_met hcon D tA bs aS L) ⟨cb, hnm, hts _ hin⟩ hp rfl rfl hls (by simp) (lv_room hsum) hd hf
  · have hB := x_nest_B _ hlk
    simp only [(k_div hi).1, (k_div hi).2] at hB
    have cb := va_cnB (R := R) (s := s) (args := args) (own := o_name (m_own m)) (host := host) (index := i) (y := m_name y) (bytes := m_bytes y) (maxL := m_maxL y) (ret := none) (mc := σ2.2.2.2.2.1 - σ.2.2.2.2.1) (ms := σ2.2.2.2.2.2 - σ.2.2.2.2.2) (rm := m_rm y (σ2.2.2.2.2.1 - σ.2.2.2.2.1) (σ2.2.2.2.2.2 - σ.2.2.2.2.2)) (Ts := w_all) (ws := m_word y :: w_all) vs.length hts (goodIn_all (a_wsY hy hy2)) (by rw [hwd]) rfl rfl (hZ.2.2.2.2.2.2.1 _ hB) (hts _ hini) ⟨hcl.1, hcl.2, hlen⟩ ⟨Nat.le_trans hRm.1 hfr, Nat.le_trans hRm.2 hlo⟩
    exact va_runIN (cc := m_bytes m) (nL := m_maxL m) (Ts := w_all) (own := o_name (m_own m)) ⟨hx, hb, hml, hown, hts⟩ (a_met hcon D tA bs aS L) ⟨cb, hnm, hts _ hin⟩ hp rfl rfl hls (by simp) (lv_room hsum) hd hf
end SY
