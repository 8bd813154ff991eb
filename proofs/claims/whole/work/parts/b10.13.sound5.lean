/-! ===== calls, ends, exceptions; the abstract machine is sound ===== -/
theorem goodIn_all {ws : List Jvm.Cond} (h : ∀ w ∈ ws, w ∈ w_all) : GoodIn w_all ws := fun w hw => ⟨h w hw, good_of_word (List.mem_filter.mp (h w hw)).2⟩
def a_Z (bs : Nat) (aS : Nat → Nat) (U : State) (H : Heap) : Prop :=
  va_Z "java/lang/String" "COMPACT_STRINGS" "Z" (.int 1) (a_A bs) U H ∧ va_Zq "jdk/internal/util/Preconditions" "SIOOBE_FORMATTER" "Ljava/util/function/BiFunction;" (a_A bs) U H ∧ vx_Zq Bundle.tN "UNASSIGNED_STACK" Bundle.steD (a_A bs) U H ∧ vx_Zq Bundle.tN "SUPPRESSED_SENTINEL" Bundle.listD (a_A bs) U H ∧
  (∀ q ∈ c_strL, ∃ tx, vk_R (o_name (q.1 / 10000)) (q.1 % 10000) tx (aS q.2) U) ∧ (∀ q ∈ x_txt, ∃ sa, vk_R RX10 q.1 q.2 sa U) ∧ (∀ w ∈ x_B, va_Nw w U) ∧ (∀ C ∈ x_AO, va_AO C U) ∧ (∀ q ∈ x_nc, va_Nc q.1 q.2 U)
theorem a_Z.kept {bs : Nat} {aS : Nat → Nat} {U : State} {H H1 : Heap} (h : a_Z bs aS U H) (hq : ∀ a : Nat, a < H.size → ¬ a_A bs a → H1[a]? = H[a]?) : a_Z bs aS U H1 := by
  obtain ⟨h1, h2, h3, h4, h5⟩ := h
  exact ⟨h1.kept hq, h2.kept hq, h3.kept hq, h4.kept hq, h5⟩
theorem a_Z.warm {bs : Nat} {aS : Nat → Nat} {s U : State} {H : Heap} (hW : s.WarmedH U.vm) (h : a_Z bs aS s H) : a_Z bs aS U H := by
  obtain ⟨h1, h2, h3, h4, h5, h6, h7, h8, h9⟩ := h
  refine ⟨h1.moved hW.alike, h2.moved hW.alike, h3.moved hW.alike, h4.moved hW.alike, fun q hq => ?_, fun q hq => ?_, fun w hw => ?_, fun C hC => (h8 C hC).moved hW.alike, fun q hq => (h9 q hq).moved hW.alike⟩
  · obtain ⟨tx, h⟩ := h5 q hq
    exact ⟨tx, h.warm hW⟩
  · obtain ⟨tx, h⟩ := h6 q hq
    exact ⟨tx, h.warm hW⟩
  · have hz := h7 w hw
    rcases x_B_form w hw with ⟨C, T, rfl⟩ | ⟨y, rfl⟩ | ⟨a, b, y, d, rfl⟩
    · exact va_Nw.warmC hW hz
    · exact va_Nw.warmD hW hz
    · exact va_Nw.warmM hW hz
theorem a_st_len {L : Nat → Nat} {n : Nat} : ∀ {as : List AV} {vs : List Value}, a_st L n as vs → vs.length = as.length
  | [], [], _ => rfl
  | _ :: _, _ :: _, ⟨_, _, h⟩ => congrArg Nat.succ (a_st_len h)
  | [], _ :: _, h => h.elim
  | _ :: _, [], h => h.elim
theorem a_st_app {L : Nat → Nat} {n : Nat} {bs : List AV} {ws : List Value} (h2 : a_st L n bs ws) : ∀ {as : List AV} {vs : List Value}, a_st L n as vs → a_st L n (as ++ bs) (vs ++ ws)
  | [], [], _ => h2
  | _ :: _, _ :: _, ⟨h, h1, h3⟩ => ⟨h, h1, a_st_app h2 h3⟩
  | [], _ :: _, h => h.elim
  | _ :: _, [], h => h.elim
theorem a_st_cut {L : Nat → Nat} {n : Nat} : ∀ (k : Nat) {as : List AV} {vs : List Value}, a_st L n as vs → a_st L n (as.take k) (vs.take k) ∧ a_st L n (as.drop k) (vs.drop k)
  | 0, _, _, h => ⟨trivial, h⟩
  | _ + 1, [], [], _ => ⟨trivial, trivial⟩
  | k + 1, _ :: _, _ :: _, ⟨h, h1, h3⟩ => ⟨⟨h, h1, (a_st_cut k h3).1⟩, (a_st_cut k h3).2⟩
  | _ + 1, [], _ :: _, h => h.elim
  | _ + 1, _ :: _, [], h => h.elim
theorem a_st_rev {L : Nat → Nat} {n : Nat} : ∀ {as : List AV} {vs : List Value}, a_st L n as vs → a_st L n as.reverse vs.reverse
  | [], [], _ => trivial
  | a :: as, v :: vs, ⟨h, h1, h3⟩ => by
    rw [List.reverse_cons, List.reverse_cons]
    exact a_st_app (bs := [a]) (ws := [v]) ⟨h, h1, trivial⟩ (a_st_rev h3)
  | [], _ :: _, h => h.elim
  | _ :: _, [], h => h.elim
theorem a_lay_sl {L : Nat → Nat} {n : Nat} : ∀ {as : List AV} {vs : List Value}, a_st L n as vs → (lg_sl vs).length = (a_lay as).length ∧ ∀ (i : Nat) (a : AV), (a_lay as)[i]? = some a → a_kn a = true → ∃ v : Value, (lg_sl vs)[i]? = some (.val v) ∧ a_rl L n a v
  | [], [], _ => ⟨rfl, fun i a h => by simp [a_lay] at h⟩
  | a :: as, v :: vs, ⟨hk, h1, h3⟩ => by
    have ih := a_lay_sl h3
    have hc := a_rl_cat h1 hk
    have e : lg_sl (v :: vs) = (if v.category = 2 then [.val v, .second] else [.val v]) ++ lg_sl vs := rfl
    rw [e]
    by_cases h2 : a_cat a = 2
    · rw [if_pos (hc.trans h2), a_lay, if_pos h2]
      refine ⟨by simp [ih.1], fun i b hb hkb => ?_⟩
      match i, hb with
      | 0, hb => cases hb; exact ⟨v, rfl, h1⟩
      | 1, hb => cases hb; cases hkb
      | i + 2, hb =>
        obtain ⟨w, e1, e2⟩ := ih.2 i b (by simpa using hb) hkb
        exact ⟨w, by simpa using e1, e2⟩
    · rw [if_neg (fun z => h2 (hc.symm.trans z)), a_lay, if_neg h2]
      refine ⟨by simp [ih.1], fun i b hb hkb => ?_⟩
      match i, hb with
      | 0, hb => cases hb; exact ⟨v, rfl, h1⟩
      | i + 1, hb =>
        obtain ⟨w, e1, e2⟩ := ih.2 i b (by simpa using hb) hkb
        exact ⟨w, by simpa using e1, e2⟩
  | [], _ :: _, h => h.elim
  | _ :: _, [], h => h.elim
theorem a_lo_entry {L : Nat → Nat} {n m : Nat} {as : List AV} {vs : List Value} (h : a_st L n as vs) (hm : (a_lay as).length ≤ m_maxL m) : a_lo L n (a_entry m as) ((lg_sl vs ++ List.replicate (m_maxL m - (lg_sl vs).length) Slot.unset).toArray) := by
  obtain ⟨h1, h2⟩ := a_lay_sl h
  have he := lv_entry vs (n := m_maxL m) (by omega)
  refine ⟨?_, he.2.1, fun i a ha hk => ?_⟩
  · simp [a_entry, h1]
  · unfold a_entry at ha
    by_cases hi : i < (a_lay as).length
    · rw [List.getElem?_append_left hi] at ha
      obtain ⟨v, e1, e2⟩ := h2 i a ha hk
      refine ⟨v, ?_, e2⟩
      rw [List.getElem?_toArray, List.getElem?_append_left (by omega)]
      exact e1
    · rw [List.getElem?_append_right (by omega)] at ha
      obtain ⟨hz, ha⟩ := List.getElem?_eq_some_iff.mp ha
      rw [List.getElem_replicate] at ha
      subst ha
      cases hk
def a_ret (L : Nat → Nat) (n : Nat) : Option AV → Option Value → Prop
  | none, none => True
  | some a, some v => a_kn a = true ∧ a_rl L n a v
  | _, _ => False
theorem a_ret_st {L : Nat → Nat} {n : Nat} {av : Option AV} {v : Option Value} {as : List AV} {vs : List Value} (h : a_ret L n av v) (h1 : a_st L n as vs) : a_st L n (av.toList ++ as) (v.toList ++ vs) := by
  match av, v, h with
  | none, none, _ => exact h1
  | some a, some v, h => exact ⟨h.1, h.2, h1⟩
def a_Pc (D : va_G) (tA : Nat → ClassId) (bs : Nat) (aS L : Nat → Nat) (σ : AS) (as : List AV) : Array Value → State → Prop := fun a U => ∃ vs : List Value, a = vs.toArray ∧ a_st L σ.2.2.2.1 as vs ∧ a_W D tA bs aS L σ U U.heap ∧ a_Z bs aS U U.heap
def a_Qc (D : va_G) (tA : Nat → ClassId) (bs : Nat) (aS L : Nat → Nat) (n0 : Nat) (o : AO) (σ1 : AS) : Array Value → State → Outcome → State → Prop := fun _ st oc t => ∃ (av : Option AV) (v : Option Value) (L1 : Nat → Nat), o = .inl av ∧ oc = .returned v ∧ a_ret L1 σ1.2.2.2.1 av v ∧ a_ex L L1 n0 ∧ a_W D tA bs aS L1 σ1 t t.heap ∧ va_F (a_A bs) st t
def a_XC (D : va_G) (tA : Nat → ClassId) (bs : Nat) (aS L : Nat → Nat) (n0 : Nat) (o : AO) (σ1 : AS) : String → State → State → Prop := fun E st t => ∃ (x : Nat) (L1 : Nat → Nat), o = .inr x ∧ 1 ≤ x ∧ x ≤ 3 ∧ E = x_name x ∧ a_ex L L1 n0 ∧ a_W D tA bs aS L1 σ1 t t.heap ∧ va_F (a_A bs) st t
def m_rm (m k n : Nat) : Room := { frames := m_fr m, cells := k, slots := n, locals := m_lo m }
def a_con (l : Launch) (m : Nat) (as : List AV) (σ : AS) (o : AO) (σ1 : AS) : Prop := ∀ (D : va_G) (tA : Nat → ClassId) (bs : Nat) (aS L : Nat → Nat), vx_Met l (m_name m) (m_word m :: w_all) (m_rm m (σ1.2.2.2.2.1 - σ.2.2.2.2.1) (σ1.2.2.2.2.2 - σ.2.2.2.2.2)) (a_Pc D tA bs aS L σ as) (a_Qc D tA bs aS L σ.2.2.2.1 o σ1) (a_XC D tA bs aS L σ.2.2.2.1 o σ1) (σ1.2.2.2.2.1 - σ.2.2.2.2.1) (σ1.2.2.2.2.2 - σ.2.2.2.2.2) (a_A bs)
/-- what holds in a body of the method m -/
def a_Fx (p : Program) (l : Launch) (R : Room) (s : State) (mi : MethodId) (args : Array Value) (meth : Method) (c : Code) (bs : Nat) (aS : Nat → Nat) (m : Nat) : Prop :=
  p.tables.exec = Jvm.exec ∧ c.code = m_bytes m ∧ c.maxLocals = m_maxL m ∧ meth.sig.returnType = m_retT m ∧ meth.locks = false ∧ s.vm.findClass (o_name (m_own m)) = some mi.cls ∧ (∀ w ∈ w_all, w.before args s = true) ∧ (m_init m = true → meth.name = "<init>") ∧ c.exceptionTable.toList = tableOf (m_hh m) ∧ a_Z bs aS s s.heap ∧ l.stackTraces = false ∧ m_fr m ≤ R.frames ∧ m_lo m ≤ R.locals
def a_bod (l : Launch) (n : Nat) : Prop := ∀ (m pc : Nat) (ls st : List AV) (σ : AS) (o : AO) (σ1 : AS), a_run n m pc ls st σ = some (o, σ1) →
  ∀ (p : Program) (e : Env) (R : Room) (s : State) (mi : MethodId) (args : Array Value) (below : List Frame) (meth : Method) (c : Code) (D : va_G) (tA : Nat → ClassId) (bs : Nat) (aS L0 : Nat → Nat) (n0 mc ms : Nat), a_Fx p l R s mi args meth c bs aS m → mc ≤ R.cells → ms ≤ R.slots → ls.length = m_maxL m →
    a_Gd p l e R s mi args below meth c (vx_MQ below (a_Qc D tA bs aS L0 n0 o σ1) (a_XC D tA bs aS L0 n0 o σ1) args s mc ms (a_A bs)) D tA bs aS L0 n0 mc ms σ1.2.2.2.2.1 σ1.2.2.2.2.2 pc ls st σ
/-- a method's contract out of its body -/
theorem a_con_of {l : Launch} (hfl : l.stackTraces = false) {n m : Nat} {as : List AV} {σ : AS} {o : AO} {σ1 : AS} (hb : a_bod l n) (hm : m < 359) (hm2 : m ≠ 350) (hlay : (a_lay as).length ≤ m_maxL m) (h : a_run n m 0 (a_entry m as) [] σ = some (o, σ1)) : a_con l m as σ o σ1 := by
  intro D tA bs aS L
  have hmk := m_ok hm
  simp only [m_okM, Bool.and_eq_true, decide_eq_true_eq] at hmk
  obtain ⟨⟨⟨⟨⟨⟨hrt, hh1⟩, hh2⟩, hh3⟩, hcl⟩, hini⟩, hpl⟩ := hmk
  have hle := a_run_mon n h
  have core : ∀ (p : Program) (e : Env) (s : State) (mi : MethodId) (args : Array Value) (below : List Frame) (meth : Method) (c : Code) (s₁ : State), BodyLoose p l (m_name m) (headSpec (m_word m :: w_all) (m_rm m (σ1.2.2.2.2.1 - σ.2.2.2.2.1) (σ1.2.2.2.2.2 - σ.2.2.2.2.2))) (m_bytes m) (m_maxL m) (m_retT m) e s mi args below meth c s₁ → c.maxLocals = m_maxL m → c.exceptionTable.toList = tableOf (m_hh m) → a_Pc D tA bs aS L σ as args s →
      W p l e (headSpec (m_word m :: w_all) (m_rm m (σ1.2.2.2.2.1 - σ.2.2.2.2.1) (σ1.2.2.2.2.2 - σ.2.2.2.2.2))).room s mi args below meth c s.heap [] 0 0 (vx_MQ below (a_Qc D tA bs aS L σ.2.2.2.1 o σ1) (a_XC D tA bs aS L σ.2.2.2.1 o σ1) args s (σ1.2.2.2.2.1 - σ.2.2.2.2.1) (σ1.2.2.2.2.2 - σ.2.2.2.2.2) (a_A bs)) (entryFrame mi args (m_maxL m)) := by
    intro p e s mi args below meth c s₁ B hml htab hP
    obtain ⟨vs, rfl, hst, hW, hZ⟩ := hP
    rw [lg_entry_eq]
    have hts : ∀ w ∈ m_word m :: w_all, w.before vs.toArray s = true := atoms_spec (ws := m_word m :: w_all) B.pre
    have hown : s.vm.findClass (o_name (m_own m)) = some mi.cls := by rw [← hcl]; exact findClass_of_methodNamed B.named
    have hin : m_init m = true → meth.name = "<init>" := fun hi => by
      have e1 := (name_of_methodNamed B.named B.method).1
      rw [e1]
      rw [hi] at hini
      simpa using hini
    refine hb m 0 _ [] σ o σ1 h p e _ s mi vs.toArray below meth c D tA bs aS L σ.2.2.2.1 _ _ ⟨B.exec, B.bytes, hml, B.returns, B.notSynchronized, hown, fun w hw => hts w (List.mem_cons_of_mem _ hw), hin, htab, hZ, hfl, Nat.le_refl _, Nat.le_refl _⟩ (Nat.le_refl _) (Nat.le_refl _) ?_ L s.heap [] 0 0 _ [] (Nat.le_refl _) (fun _ _ => rfl) hW va_S.rf ?_ ?_ (a_lo_entry hst hlay) trivial
    · simp only [a_entry, List.length_append, List.length_replicate]
      omega
    · have := hle.2.1
      show 0 + σ1.2.2.2.2.1 ≤ (σ1.2.2.2.2.1 - σ.2.2.2.2.1) + σ.2.2.2.2.1
      omega
    · have := hle.2.2
      show 0 + σ1.2.2.2.2.2 ≤ (σ1.2.2.2.2.2 - σ.2.2.2.2.2) + σ.2.2.2.2.2
      omega
  by_cases he : (m_hh m).isEmpty = true
  · have hwd : m_word m = .code (m_name m) (m_bytes m) (m_maxL m) (m_retT m) := by
      unfold m_word
      rw [if_pos he]
    refine vx_ofW (cc := m_bytes m) (maxL := m_maxL m) (ret := m_retT m) hpl (by rw [hwd]) ?_
    intro p e s mi args below meth c s₁ B hml ht hP
    refine core p e s mi args below meth c s₁ B hml ?_ hP
    have e1 : m_hh m = [] := List.isEmpty_iff.mp he
    rw [e1]
    show _ = []
    cases hq : c.exceptionTable.toList with
    | nil => rfl
    | cons x r => exact (ht x (by rw [hq]; exact List.mem_cons_self)).elim
  · have hwd : m_word m = .codeWith (m_name m) (m_bytes m) (m_maxL m) (m_retT m) (m_hh m) := by
      unfold m_word
      rw [if_neg he]
    refine vx_ofWH (cc := m_bytes m) (maxL := m_maxL m) (ret := m_retT m) (hh := m_hh m) hpl (by rw [hwd]) ?_
    intro p e s mi args below meth c s₁ B hml hP
    refine core p e s mi args below meth c s₁ B hml ?_ hP
    have hts : ∀ w ∈ m_word m :: w_all, w.before args s = true := atoms_spec (ws := m_word m :: w_all) B.pre
    exact vx_table (x := m_name m) B (by rw [← hwd]; exact hts _ List.mem_cons_self)
section SX
variable {p : Program} {l : Launch} {e : Env} {R : Room} {s : State} {mi : MethodId} {args : Array Value} {below : List Frame} {meth : Method} {c : Code} {D : va_G} {tA : Nat → ClassId} {bs : Nat} {aS L0 : Nat → Nat} {n0 mc ms cE sE : Nat} {m pc : Nat} {ls st : List AV} {σ : AS} {q : SR} {cc : ByteArray}
/-- behind a call -/
theorem a_after {o o1 : AO} {σ2 σ3 : AS} {len mc1 ms1 : Nat} {L : Nat → Nat} {H : Heap} {locs : List Loc} {cells slots : Nat} {lsC : Array Slot} {stC rest : List Value} {rst : List AV} {a : Array Value} (hr : vx_Run p l e R s mi args below meth c H locs cells slots mc1 ms1 (F0 mi pc lsC stC) rest (a_Qc D tA bs aS L σ.2.2.2.1 o σ2 a) (a_XC D tA bs aS L σ.2.2.2.1 o σ2) (a_A bs))
    (hS : va_S (a_A bs) s.heap H locs) (hn : n0 ≤ σ.2.2.2.1) (hx0 : a_ex L0 L n0) (hle : a_le σ σ2) (hl : a_lo L σ.2.2.2.1 ls lsC) (hst : a_st L σ.2.2.2.1 rst rest) (h1 : σ2.2.2.2.2.1 = σ.2.2.2.2.1 + mc1) (h2 : σ2.2.2.2.2.2 = σ.2.2.2.2.2 + ms1) (hc1 : cells + σ3.2.2.2.2.1 ≤ mc + σ.2.2.2.2.1) (hc2 : slots + σ3.2.2.2.2.2 ≤ ms + σ.2.2.2.2.2)
    (kk : ∀ v, o = .inl v → a_Gd p l e R s mi args below meth c (vx_MQ below (a_Qc D tA bs aS L0 n0 o1 σ3) (a_XC D tA bs aS L0 n0 o1 σ3) args s mc ms (a_A bs)) D tA bs aS L0 n0 mc ms σ3.2.2.2.2.1 σ3.2.2.2.2.2 (pc + 3) ls (v.toList ++ rst) σ2)
    (kx : ∀ (x : Nat) (L1 : Nat → Nat) (H1 : Heap) (locs1 : List Loc) (q9 : Addr) (ce : Cell), o = .inr x → 1 ≤ x → x ≤ 3 → a_ex L0 L1 n0 → a_W D tA bs aS L1 σ2 s H1 → va_S (a_A bs) s.heap H1 locs1 → a_lo L1 σ2.2.2.2.1 ls lsC → H1[q9]? = some ce → ce.vm = .none → s.vm.findClass (x_name x) = some ce.cls →
      vx_W p l e R s mi args below meth c H1 locs1 (cells + mc1) (slots + ms1) (vx_MQ below (a_Qc D tA bs aS L0 n0 o1 σ3) (a_XC D tA bs aS L0 n0 o1 σ3) args s mc ms (a_A bs)) (F0 mi pc lsC rest) q9) :
    W p l e R s mi args below meth c H locs cells slots (vx_MQ below (a_Qc D tA bs aS L0 n0 o1 σ3) (a_XC D tA bs aS L0 n0 o1 σ3) args s mc ms (a_A bs)) (F0 mi pc lsC stC) := by
  intro T hT X
  have keep : ∀ {st₀ t T' : State} {Lc : List Loc}, st₀.heap = H → T'.heap = t.heap → (∀ z ∈ Lc, a_A bs z.base) → va_F (a_A bs) st₀ t → va_S (a_A bs) s.heap T'.heap (locs ++ Lc) := by
    intro st₀ t T' Lc h0 e1 hL hF
    obtain ⟨hz, hk⟩ := hF
    rw [h0] at hz hk
    refine ⟨Nat.le_trans hS.1 (by rw [e1]; exact hz), fun q h1 h2 => ?_, fun q hq => ?_⟩
    · rw [e1, hk q (Nat.lt_of_lt_of_le h1 hS.1) h2]
      exact hS.2.1 q h1 h2
    · rcases List.mem_append.mp hq with h | h
      · exact hS.2.2 q h
      · exact hL q h
  rcases hr T hT X with ⟨v, st₀, t, T', Lc, h0, X', hL, e1, e2, ⟨av, v1, L1, ho, hv, hret, hex, hW, hF⟩, stp⟩ | ⟨q9, st₀, t, T', Lc, E, ce, h0, X', hL, e1, e2, ⟨x, L1, ho, hx1, hx2, rfl, hex, hW, hF⟩, hce, hcv, hcl, stp⟩
  · cases hv
    have hS1 := keep h0 e1 hL hF
    have hW1 : a_W D tA bs aS L1 σ2 s T'.heap := by
      rw [e1]
      exact hW.moved (by rw [← e2]; exact X'.warmed.alike.symm)
    obtain ⟨t2, a1, b1⟩ := kk av ho L1 T'.heap (locs ++ Lc) (cells + mc1) (slots + ms1) lsC (v.toList ++ rest) (Nat.le_trans hn hle.1) (hx0.trans hex hn) hW1 hS1 (by omega) (by omega) (hl.to hex hle.1) (a_ret_st hret (hst.to hex hle.1)) T' rfl X'
    exact ⟨t2, stp t2 a1, b1⟩
  · have hS1 := keep h0 e1 hL hF
    have hW1 : a_W D tA bs aS L1 σ2 s T'.heap := by
      rw [e1]
      exact hW.moved (by rw [← e2]; exact X'.warmed.alike.symm)
    obtain ⟨t2, a1, b1⟩ := kx x L1 T'.heap (locs ++ Lc) q9 ce ho hx1 hx2 (hx0.trans hex hn) hW1 hS1 (hl.to hex hle.1) (by rw [e1]; exact hce) hcv hcl T' rfl X'
    exact ⟨t2, stp.trans a1, b1⟩
end SX
