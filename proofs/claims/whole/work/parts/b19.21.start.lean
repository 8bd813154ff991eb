/-! ===== the law's entry (rows of the kit's skeleton; lw_At says of the table, too) ===== -/
def R_law : String := "BookmobileRadioLaw"
def lw_P (b : Addr) (xs : List Int32) (args : Array Value) (s : State) : Prop := args = #[.ref b] ∧ s.IntsAt b xs ∧ xs.length ≤ 3584 ∧ (Jvm.Cond.and given_1 narrow_1).before args s = true
/-- what a walk over the start with the record d0 says of its end, said of the start itself -/
theorem lw_closed {s t : State} {o : Outcome} {d0 : Drawn} {L : List Loc} {k n : Nat} (hd0 : s.drawn.sameBut d0 lw_cs) (hv : ∃ v, o = .returned v) (hW : (s.setDrawn d0).WarmedH t.vm) (hs : (s.setDrawn d0).sameButNew ({ t with vm := s.vm } : State) L k n) : State.butDraws s t lw_cs (fun t1 => Framed s o t1 L k n) := by
  have h2 : t.drawn = d0 := congrArg State.drawn hs.1
  refine ⟨⟨hv, hW, State.sameButNew.setDrawn hs s.drawn⟩, ?_, by decide⟩
  rw [h2]
  exact hd0
def lw_Q (_ : Array Value) (s : State) (o : Outcome) (t : State) : Prop := o = .returned (some (.int 1)) ∧ State.butDraws s t lw_cs (fun t1 => Framed s o t1 [] 601024 7293034)
def lw_Z (below : List Frame) (a : Array Value) (s : State) : State → Prop := fun t => ∃ o, t.status = .running ∧ Ended t below o ∧ lw_Q a s o t
/-- the law's own end, with 1 on the stack, nothing written that was there before, its room as the claim has it; d0: the record of draws at this point (at the entry s.drawn: begin with 'refine W.base ?_' and 'have hd0 := Drawn.sameBut.refl s.drawn lw_cs') -/
theorem lw_ret {p : Program} {l : Launch} {e : Env} {s : State} {m : MethodId} {below : List Frame} {meth : Method} {c : Code} {b : Nat} {d0 : Drawn} (hd0 : s.drawn.sameBut d0 lw_cs) (hx : p.tables.exec = Jvm.exec) (hb : c.code = code) (hr : meth.sig.returnType = ret) (hlocks : meth.locks = false) {pc : Nat} {H : Heap} {ls : Array Slot} (hdg : decode code pc = .ok (.ireturn, 1)) : W p l e room_1 (s.setDrawn d0) m #[Value.ref b] below meth c H [] 601024 7293034 (lw_Z below #[Value.ref b] s) (F0 m pc ls [.int 1]) := by
  intro T hT X
  obtain ⟨fs, hret, hrun, hended, hW, hframe⟩ := X.leave (v := some (.int 1)) (hlocks := hlocks) (fun h => by rw [hr] at h; cases h)
  have hmeth' : T.vm.method? m = some meth := X.method'
  refine ⟨T.setFrames fs, ?_, .returned (some (.int 1)), hrun, hended, rfl, lw_closed hd0 ⟨_, rfl⟩ hW hframe⟩
  jvm_step X.here [X.here.top, hx, hb, hdg, hmeth', hr, ret, narrow_b1]
  (try refine ⟨rfl, ?_⟩); (try refine ⟨rfl, ?_⟩)
  first | (intro acts; rw [hret _ acts rfl rfl rfl]) | rw [hret _ _ rfl rfl rfl]
  exact Steps.refl _
/-- what holds at the law's entry: the machine, the code, the tables' words (any of lw_tbl by 'hts w (by decide +kernel)'), the script of L ints xs at the cell b, what the Statement gives of the start (any of its parts by flat_of_before) -/
def lw_At (p : Program) (s : State) (m : MethodId) (meth : Method) (c : Code) (b L : Nat) (xs : Nat → Int32) : Prop :=
  p.tables.exec = Jvm.exec ∧ c.code = code ∧ meth.sig.returnType = ret ∧ c.maxLocals = 9 ∧ s.vm.findClass R_law = some m.cls ∧ (∀ w ∈ lw_tbl, w.before #[Value.ref b] s = true) ∧ va_X b L xs s s.heap ∧ b < s.heap.size ∧ meth.locks = false ∧ (Jvm.Cond.and given_1 narrow_1).before #[Value.ref b] s = true ∧ c.exceptionTable.toList = []
/-! ===== the whole start out of one abstract run ===== -/
theorem sbn_forget {s t : State} {L : List Loc} {k n k1 n1 : Nat} (h : s.sameButNew t L k n) (hL : ∀ q ∈ L, s.heap.size ≤ q.base) (hk : k ≤ k1) (hn : n ≤ n1) : s.sameButNew t [] k1 n1 := by
  obtain ⟨h1, h2, h3, h4, h5, h6⟩ := h
  refine ⟨h1, h2, by omega, h4, by omega, fun a c hc => ?_⟩
  obtain ⟨c', e1, e2, e3, e4⟩ := h6 a c hc
  refine ⟨c', e1, e2, e3, fun i _ => e4 i fun hm => ?_⟩
  have h7 := hL _ hm
  have hlt := (Array.getElem?_eq_some_iff.mp hc).1
  exact absurd hlt (Nat.not_lt.mpr h7)
theorem lw_of_MQ {below : List Frame} {args : Array Value} {s t : State} {mc ms : Nat} {Qc : Array Value → State → Outcome → State → Prop} {XC : String → State → State → Prop} (h : vx_MQ below Qc XC args s mc ms (a_A s.heap.size) t) (hQ : ∀ o, Qc args s o t → o = .returned (some (.int 1))) (hX : ∀ E st u, ¬ XC E st u) (hmc : mc ≤ 601024) (hms : ms ≤ 7293034) : lw_Z below args s t := by
  obtain ⟨o, h1, h2, ⟨h3, L, ⟨h4, h5, h6⟩, h7⟩ | ⟨q, -, E, ce, L, h3, -⟩⟩ := h
  · have ho := hQ o h3
    subst ho
    exact ⟨_, h1, h2, rfl, lw_closed (d0 := s.drawn) (Drawn.sameBut.refl s.drawn lw_cs) h4 h5 (sbn_forget h6 h7 hmc hms)⟩
  · exact absurd h3 (hX _ _ _)
theorem whole_red {p : Program} {e : Env} {s : State} {m : MethodId} {below : List Frame} {meth : Method} {c : Code} (l : Launch) (hfl : l.stackTraces = false) {b L : Nat} {xs : Nat → Int32} (C0 : lw_At p s m meth c b L xs) {D : va_G} {tA : Nat → ClassId} {aS L0 : Nat → Nat} {σ0 σ1 : AS} {n : Nat}
    (hrun : a_run n 350 0 (a_entry 350 [a_r 17]) [] σ0 = some (.inl (some (a_i 1)), σ1)) (hc : σ1.2.2.2.2.1 ≤ 601024 + σ0.2.2.2.2.1) (hs : σ1.2.2.2.2.2 ≤ 7293034 + σ0.2.2.2.2.2) (hW : a_W D tA s.heap.size aS L0 σ0 s s.heap) (hZ : a_Z s.heap.size aS s s.heap) (hn : 17 < σ0.2.2.2.1) (h17 : L0 17 = b) :
    W p l e room_1 s m #[Value.ref b] below meth c s.heap [] 0 0 (lw_Z below #[Value.ref b] s) (entryFrame m ([Value.ref b] : List Value).toArray 9) := by
  obtain ⟨hx, hb, hrt, hml, hown, hts, hX, hbl, hlk, hgv, htab⟩ := C0
  have hst : a_st L0 σ0.2.2.2.1 [a_r 17] [Value.ref b] := ⟨rfl, ⟨hn, by rw [a_null_pos (by decide), h17]⟩, trivial⟩
  have hk := a_sound hfl n 350 0 (a_entry 350 [a_r 17]) [] σ0 _ _ hrun p e room_1 s m #[Value.ref b] below meth c D tA s.heap.size aS L0 σ0.2.2.2.1 601024 7293034
    ⟨hx, hb, hml, hrt, hlk, hown, fun w hw => hts w (List.mem_filter.mp hw).1, (fun h => nomatch h), htab, hZ, hfl, by decide +kernel, by decide +kernel⟩ (by decide) (by decide) rfl L0 s.heap [] 0 0 _ [] (Nat.le_refl _) (fun _ _ => rfl) hW va_S.rf (by omega) (by omega) (a_lo_entry (m := 350) hst (by decide)) trivial
  have e9 : entryFrame m ([Value.ref b] : List Value).toArray 9 = F0 m 0 ((lg_sl [Value.ref b] ++ List.replicate (m_maxL 350 - (lg_sl [Value.ref b]).length) Slot.unset).toArray) [] := lg_entry_eq ..
  rw [e9]
  intro T hT X
  obtain ⟨t, a1, b1⟩ := hk T hT X
  refine ⟨t, a1, lw_of_MQ b1 (fun o ho => ?_) (fun E st u hE => ?_) (Nat.le_refl _) (Nat.le_refl _)⟩
  · obtain ⟨av, v, L1, h1, rfl, h3, -⟩ := ho
    cases h1
    match v, h3 with
    | some v, ⟨_, w, hw, hz⟩ =>
      have e1 : w = 1 := Int32.toInt_inj.mp (by rw [hz]; rfl)
      rw [hw, e1]
  · obtain ⟨x, L1, h1, -⟩ := hE
    cases h1
