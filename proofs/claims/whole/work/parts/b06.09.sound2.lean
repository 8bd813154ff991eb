/-! ===== the instructions (by wip/whole/gen_sound2.py) ===== -/
def a_Gd (p : Program) (l : Launch) (e : Env) (R : Room) (s : State) (mi : MethodId) (args : Array Value) (below : List Frame) (meth : Method) (c : Code) (Z : State → Prop) (D : va_G) (tA : Nat → ClassId) (bs : Nat) (aS L0 : Nat → Nat) (n0 mc ms cE sE pc : Nat) (ls st : List AV) (σ : AS) : Prop :=
  ∀ (L : Nat → Nat) (H : Heap) (locs : List Loc) (cells slots : Nat) (lsC : Array Slot) (stC : List Value), n0 ≤ σ.2.2.2.1 → a_ex L0 L n0 → a_W D tA bs aS L σ s H → va_S (a_A bs) s.heap H locs → cells + cE ≤ mc + σ.2.2.2.2.1 → slots + sE ≤ ms + σ.2.2.2.2.2 → a_lo L σ.2.2.2.1 ls lsC → a_st L σ.2.2.2.1 st stC →
    W p l e R s mi args below meth c H locs cells slots Z (F0 mi pc lsC stC)
theorem st_i {L : Nat → Nat} {n : Nat} {z : Int} {as : List AV} {vs : List Value} (h : a_st L n (.inl z :: as) vs) : ∃ (w : Int32) (v1 : List Value), vs = .int w :: v1 ∧ w.toInt = z ∧ a_st L n as v1 := by
  match vs, h with
  | v :: v1, ⟨_, ⟨w, e, hw⟩, h3⟩ => exact ⟨w, v1, by rw [e], hw, h3⟩
theorem st_r {L : Nat → Nat} {n q : Nat} {as : List AV} {vs : List Value} (h : a_st L n (.inr (.inl q) :: as) vs) : ∃ (v1 : List Value), vs = a_null L q :: v1 ∧ q < n ∧ a_st L n as v1 := by
  match vs, h with
  | v :: v1, ⟨_, ⟨h1, e⟩, h3⟩ => exact ⟨v1, by rw [e], h1, h3⟩
theorem st_l {L : Nat → Nat} {n : Nat} {z : Int} {as : List AV} {vs : List Value} (h : a_st L n (.inr (.inr (.inl z)) :: as) vs) : ∃ (w : Int64) (v1 : List Value), vs = .long w :: v1 ∧ w.toInt = z ∧ a_st L n as v1 := by
  match vs, h with
  | v :: v1, ⟨_, ⟨w, e, hw⟩, h3⟩ => exact ⟨w, v1, by rw [e], hw, h3⟩
theorem st_f {L : Nat → Nat} {n : Nat} {z : UInt32} {as : List AV} {vs : List Value} (h : a_st L n (.inr (.inr (.inr (.inl z))) :: as) vs) : ∃ (v1 : List Value), vs = .float z :: v1 ∧ a_st L n as v1 := by
  match vs, h with
  | v :: v1, ⟨_, e, h3⟩ => exact ⟨v1, by rw [show v = .float z from e], h3⟩
theorem st_d {L : Nat → Nat} {n : Nat} {z : UInt64} {as : List AV} {vs : List Value} (h : a_st L n (.inr (.inr (.inr (.inr (.inl z)))) :: as) vs) : ∃ (v1 : List Value), vs = .double z :: v1 ∧ a_st L n as v1 := by
  match vs, h with
  | v :: v1, ⟨_, e, h3⟩ => exact ⟨v1, by rw [show v = .double z from e], h3⟩
theorem st_v {L : Nat → Nat} {n : Nat} {a : AV} {as : List AV} {vs : List Value} (h : a_st L n (a :: as) vs) : ∃ (v : Value) (v1 : List Value), vs = v :: v1 ∧ a_kn a = true ∧ a_rl L n a v ∧ a_st L n as v1 := by
  match vs, h with
  | v :: v1, ⟨h1, h2, h3⟩ => exact ⟨v, v1, rfl, h1, h2, h3⟩
theorem a_ite {P : Prop} {_ : Decidable P} {a : Option SR} {q : SR} (h : (if P then a else none) = some q) : P ∧ a = some q := by
  split at h
  · rename_i hp; exact ⟨hp, h⟩
  · cases h
theorem i6_fin : ∀ n : Fin 2, (Int64.ofNat n.val).toInt = (n.val : Int) := by decide
theorem pI_some {st : List AV} {k : Int → List AV → Option SR} {q : SR} (h : pI st k = some q) : ∃ z st1, st = .inl z :: st1 ∧ k z st1 = some q := by
  unfold pI at h; split at h
  · exact ⟨_, _, rfl, h⟩
  · cases h
theorem pII_some {st : List AV} {k : Int → Int → List AV → Option SR} {q : SR} (h : pII st k = some q) : ∃ x y st1, st = .inl y :: .inl x :: st1 ∧ k x y st1 = some q := by
  unfold pII at h; split at h
  · exact ⟨_, _, _, rfl, h⟩
  · cases h
theorem pR_some {st : List AV} {k : Nat → List AV → Option SR} {q : SR} (h : pR st k = some q) : ∃ z st1, st = .inr (.inl z) :: st1 ∧ k z st1 = some q := by
  unfold pR at h; split at h
  · exact ⟨_, _, rfl, h⟩
  · cases h
theorem pA_some {st : List AV} {k : AV → List AV → Option SR} {q : SR} (h : pA st k = some q) : (∃ z st1, st = .inr (.inl z) :: st1 ∧ k (a_r z) st1 = some q) ∨ (∃ st1, st = a_x true :: st1 ∧ k (a_x true) st1 = some q) := by
  unfold pA at h; split at h
  · exact Or.inl ⟨_, _, rfl, h⟩
  · exact Or.inr ⟨_, rfl, h⟩
  · cases h
theorem pIR_some {st : List AV} {k : Nat → Int → List AV → Option SR} {q : SR} (h : pIR st k = some q) : ∃ r i st1, st = .inl i :: .inr (.inl r) :: st1 ∧ k r i st1 = some q := by
  unfold pIR at h; split at h
  · exact ⟨_, _, _, rfl, h⟩
  · cases h
theorem pVIR_some {st : List AV} {k : Nat → Int → AV → List AV → Option SR} {q : SR} (h : pVIR st k = some q) : ∃ r i v st1, st = v :: .inl i :: .inr (.inl r) :: st1 ∧ k r i v st1 = some q := by
  unfold pVIR at h; split at h
  · exact ⟨_, _, _, _, rfl, h⟩
  · cases h
theorem pL_some {st : List AV} {k : Int → List AV → Option SR} {q : SR} (h : pL st k = some q) : ∃ z st1, st = .inr (.inr (.inl z)) :: st1 ∧ k z st1 = some q := by
  unfold pL at h; split at h
  · exact ⟨_, _, rfl, h⟩
  · cases h
theorem pLL_some {st : List AV} {k : Int → Int → List AV → Option SR} {q : SR} (h : pLL st k = some q) : ∃ x y st1, st = .inr (.inr (.inl y)) :: .inr (.inr (.inl x)) :: st1 ∧ k x y st1 = some q := by
  unfold pLL at h; split at h
  · exact ⟨_, _, _, rfl, h⟩
  · cases h
theorem pF_some {st : List AV} {k : UInt32 → List AV → Option SR} {q : SR} (h : pF st k = some q) : ∃ z st1, st = .inr (.inr (.inr (.inl z))) :: st1 ∧ k z st1 = some q := by
  unfold pF at h; split at h
  · exact ⟨_, _, rfl, h⟩
  · cases h
theorem pFF_some {st : List AV} {k : UInt32 → UInt32 → List AV → Option SR} {q : SR} (h : pFF st k = some q) : ∃ x y st1, st = .inr (.inr (.inr (.inl y))) :: .inr (.inr (.inr (.inl x))) :: st1 ∧ k x y st1 = some q := by
  unfold pFF at h; split at h
  · exact ⟨_, _, _, rfl, h⟩
  · cases h
theorem pD_some {st : List AV} {k : UInt64 → List AV → Option SR} {q : SR} (h : pD st k = some q) : ∃ z st1, st = .inr (.inr (.inr (.inr (.inl z)))) :: st1 ∧ k z st1 = some q := by
  unfold pD at h; split at h
  · exact ⟨_, _, rfl, h⟩
  · cases h
theorem pDD_some {st : List AV} {k : UInt64 → UInt64 → List AV → Option SR} {q : SR} (h : pDD st k = some q) : ∃ x y st1, st = .inr (.inr (.inr (.inr (.inl y)))) :: .inr (.inr (.inr (.inr (.inl x)))) :: st1 ∧ k x y st1 = some q := by
  unfold pDD at h; split at h
  · exact ⟨_, _, _, rfl, h⟩
  · cases h
theorem pV_some {st : List AV} {k : AV → List AV → Option SR} {q : SR} (h : pV st k = some q) : ∃ a st1, st = a :: st1 ∧ k a st1 = some q := by
  unfold pV at h; split at h
  · exact ⟨_, _, rfl, h⟩
  · cases h
theorem gI_some {ls : List AV} {i : Nat} {k : Int → Option SR} {q : SR} (h : gI ls i k = some q) : ∃ z, ls[i]? = some (.inl z) ∧ k z = some q := by
  unfold gI at h; split at h
  · rename_i hq; exact ⟨_, hq, h⟩
  · cases h
theorem gL_some {ls : List AV} {i : Nat} {k : Int → Option SR} {q : SR} (h : gL ls i k = some q) : ∃ z, ls[i]? = some (.inr (.inr (.inl z))) ∧ k z = some q := by
  unfold gL at h; split at h
  · rename_i hq; exact ⟨_, hq, h⟩
  · cases h
theorem gF_some {ls : List AV} {i : Nat} {k : UInt32 → Option SR} {q : SR} (h : gF ls i k = some q) : ∃ z, ls[i]? = some (.inr (.inr (.inr (.inl z)))) ∧ k z = some q := by
  unfold gF at h; split at h
  · rename_i hq; exact ⟨_, hq, h⟩
  · cases h
theorem gD_some {ls : List AV} {i : Nat} {k : UInt64 → Option SR} {q : SR} (h : gD ls i k = some q) : ∃ z, ls[i]? = some (.inr (.inr (.inr (.inr (.inl z))))) ∧ k z = some q := by
  unfold gD at h; split at h
  · rename_i hq; exact ⟨_, hq, h⟩
  · cases h
theorem gA_some {ls : List AV} {i : Nat} {k : AV → Option SR} {q : SR} (h : gA ls i k = some q) : ∃ a, ls[i]? = some a ∧ a_kn a = true ∧ ((∃ z, a = a_r z) ∨ a = a_x true) ∧ k a = some q := by
  unfold gA at h; split at h
  · rename_i hq; exact ⟨_, hq, rfl, Or.inl ⟨_, rfl⟩, h⟩
  · rename_i hq; exact ⟨_, hq, rfl, Or.inr rfl, h⟩
  · cases h
theorem s1_some {ls : List AV} {i : Nat} {a : AV} {k : List AV → Option SR} {q : SR} (h : s1 ls i a k = some q) : a_free ls i = true ∧ i < ls.length ∧ k (ls.set i a) = some q := by
  unfold s1 at h; split at h
  · rename_i hq; exact ⟨hq.1, hq.2, h⟩
  · cases h
theorem s2_some {ls : List AV} {i : Nat} {a : AV} {k : List AV → Option SR} {q : SR} (h : s2 ls i a k = some q) : a_free ls i = true ∧ i + 1 < ls.length ∧ k ((ls.set i a).set (i + 1) (a_x false)) = some q := by
  unfold s2 at h; split at h
  · rename_i hq; exact ⟨hq.1, hq.2, h⟩
  · cases h
def lv_full (ls : Array Slot) : List (Nat × Value) := (List.range ls.size).filterMap (fun i => match (ls[i]? : Option Slot) with
  | some (Slot.val v) => some (i, v)
  | _ => none)
theorem lv_full_mem {ls : Array Slot} {i : Nat} {v : Value} : (i, v) ∈ lv_full ls ↔ ls[i]? = some (.val v) := by
  unfold lv_full
  rw [List.mem_filterMap]
  constructor
  · rintro ⟨j, -, h⟩
    split at h
    · rename_i w hw
      cases h
      exact hw
    · cases h
  · intro h
    exact ⟨i, List.mem_range.mpr (Array.getElem?_eq_some_iff.mp h).1, by rw [h]⟩
theorem a_lo.full {L : Nat → Nat} {n : Nat} {als : List AV} {ls : Array Slot} (h : a_lo L n als ls) : lv_has ls als.length (lv_full ls) := ⟨h.1, h.2.1, fun q hq => lv_full_mem.mp hq⟩
theorem a_lo.s1 {L : Nat → Nat} {n i : Nat} {als : List AV} {ls ls1 : Array Slot} {a : AV} {v : Value} (h : a_lo L n als ls) (hf : a_free als i = true) (hi : i < als.length) (hv : a_rl L n a v) (h1 : lv_has ls1 als.length ((i, v) :: (lv_full ls).filter (fun q => !(q.1 == i) && !(q.1 + 1 == i && q.2.category == 2)))) : a_lo L n (als.set i a) ls1 := by
  refine ⟨by rw [List.length_set]; exact h1.1, h1.2.1, fun j b hb hk => ?_⟩
  by_cases hj : j = i
  · subst hj
    rw [List.getElem?_set_self hi] at hb
    cases hb
    exact ⟨v, h1.2.2 (j, v) List.mem_cons_self, hv⟩
  · rw [List.getElem?_set_ne (Ne.symm hj)] at hb
    obtain ⟨w, e1, e2⟩ := h.2.2 j b hb hk
    refine ⟨w, h1.2.2 (j, w) (List.mem_cons_of_mem _ (List.mem_filter.mpr ⟨lv_full_mem.mpr e1, ?_⟩)), e2⟩
    have hc := a_rl_cat e2 hk
    simp only [Bool.and_eq_true, Bool.not_eq_true', beq_eq_false_iff_ne, ne_eq, Bool.and_eq_false_iff]
    refine ⟨hj, ?_⟩
    by_cases h9 : j + 1 = i
    · right
      subst h9
      simp only [a_free, hb, beq_iff_eq] at hf
      rw [hc, hf]
      decide
    · left; exact h9
theorem a_lo.s2 {L : Nat → Nat} {n i : Nat} {als : List AV} {ls ls1 : Array Slot} {a : AV} {v : Value} (h : a_lo L n als ls) (hf : a_free als i = true) (hi : i + 1 < als.length) (hv : a_rl L n a v) (h1 : lv_has ls1 als.length ((i, v) :: (lv_full ls).filter (fun q => !(q.1 == i) && (!(q.1 == i + 1) && !(q.1 + 1 == i && q.2.category == 2))))) : a_lo L n ((als.set i a).set (i + 1) (a_x false)) ls1 := by
  refine ⟨by rw [List.length_set, List.length_set]; exact h1.1, h1.2.1, fun j b hb hk => ?_⟩
  by_cases hj1 : j = i + 1
  · subst hj1
    rw [List.getElem?_set_self (by rw [List.length_set]; exact hi)] at hb
    cases hb
    cases hk
  · rw [List.getElem?_set_ne (Ne.symm hj1)] at hb
    by_cases hj : j = i
    · subst hj
      rw [List.getElem?_set_self (by omega)] at hb
      cases hb
      exact ⟨v, h1.2.2 (j, v) List.mem_cons_self, hv⟩
    · rw [List.getElem?_set_ne (Ne.symm hj)] at hb
      obtain ⟨w, e1, e2⟩ := h.2.2 j b hb hk
      refine ⟨w, h1.2.2 (j, w) (List.mem_cons_of_mem _ (List.mem_filter.mpr ⟨lv_full_mem.mpr e1, ?_⟩)), e2⟩
      have hc := a_rl_cat e2 hk
      simp only [Bool.and_eq_true, Bool.not_eq_true', beq_eq_false_iff_ne, ne_eq, Bool.and_eq_false_iff]
      refine ⟨hj, hj1, ?_⟩
      by_cases h9 : j + 1 = i
      · right
        subst h9
        simp only [a_free, hb, beq_iff_eq] at hf
        rw [hc, hf]
        decide
      · left; exact h9
theorem a_null_rf (L : Nat → Nat) (q : Nat) : ∃ r, a_null L q = va_rf r := by
  unfold a_null
  split
  · exact ⟨none, rfl⟩
  · exact ⟨some _, rfl⟩
theorem a_null_pos {L : Nat → Nat} {q : Nat} (h : q ≠ 0) : a_null L q = .ref (L q) := if_neg h
section SG
variable {p : Program} {l : Launch} {e : Env} {R : Room} {s : State} {mi : MethodId} {args : Array Value} {below : List Frame} {meth : Method} {c : Code} {Z : State → Prop} {D : va_G} {tA : Nat → ClassId} {bs : Nat} {aS L0 : Nat → Nat} {n0 mc ms cE sE : Nat} {m pc : Nat} {ls st : List AV} {σ : AS} {q : SR} {cc : ByteArray}
theorem g_iconst {n : Int} (hx : p.tables.exec = Jvm.exec) (hb : c.code = cc) (ho : a_okI pc (.iconst n) 1 = true) (hd : decode cc pc = .ok (.iconst n, 1)) (hs : a_step m pc (.iconst n) 1 ls st σ = some q) (hK : ∀ pc1 ls1 st1 σ1, q = .inl (pc1, ls1, st1, σ1) → a_Gd p l e R s mi args below meth c Z D tA bs aS L0 n0 mc ms cE sE pc1 ls1 st1 σ1) : a_Gd p l e R s mi args below meth c Z D tA bs aS L0 n0 mc ms cE sE pc ls st σ := by
  simp only [a_step] at hs
  have hs := Option.some.inj hs
  subst hs
  intro L H locs cells slots lsC stC hn hx0 hW hS hc1 hc2 hl hst
  simp only [a_okI, Bool.and_eq_true, decide_eq_true_eq] at ho
  refine lv_iconst hx hb hd rfl ?_
  exact hK _ _ _ _ rfl L H locs cells slots lsC _ hn hx0 hW hS hc1 hc2 hl ⟨rfl, ⟨_, rfl, i3_of (by omega) (by omega)⟩, hst⟩
theorem g_bipush {n : Int} (hx : p.tables.exec = Jvm.exec) (hb : c.code = cc) (ho : a_okI pc (.bipush n) 2 = true) (hd : decode cc pc = .ok (.bipush n, 2)) (hs : a_step m pc (.bipush n) 2 ls st σ = some q) (hK : ∀ pc1 ls1 st1 σ1, q = .inl (pc1, ls1, st1, σ1) → a_Gd p l e R s mi args below meth c Z D tA bs aS L0 n0 mc ms cE sE pc1 ls1 st1 σ1) : a_Gd p l e R s mi args below meth c Z D tA bs aS L0 n0 mc ms cE sE pc ls st σ := by
  simp only [a_step] at hs
  have hs := Option.some.inj hs
  subst hs
  intro L H locs cells slots lsC stC hn hx0 hW hS hc1 hc2 hl hst
  simp only [a_okI, Bool.and_eq_true, decide_eq_true_eq] at ho
  refine lv_bipush hx hb hd rfl ?_
  exact hK _ _ _ _ rfl L H locs cells slots lsC _ hn hx0 hW hS hc1 hc2 hl ⟨rfl, ⟨_, rfl, by rw [Int8.toInt_toInt32, Int8.toInt_ofInt_of_le (by omega) (by omega)]⟩, hst⟩
theorem g_sipush {n : Int} (hx : p.tables.exec = Jvm.exec) (hb : c.code = cc) (ho : a_okI pc (.sipush n) 3 = true) (hd : decode cc pc = .ok (.sipush n, 3)) (hs : a_step m pc (.sipush n) 3 ls st σ = some q) (hK : ∀ pc1 ls1 st1 σ1, q = .inl (pc1, ls1, st1, σ1) → a_Gd p l e R s mi args below meth c Z D tA bs aS L0 n0 mc ms cE sE pc1 ls1 st1 σ1) : a_Gd p l e R s mi args below meth c Z D tA bs aS L0 n0 mc ms cE sE pc ls st σ := by
  simp only [a_step] at hs
  have hs := Option.some.inj hs
  subst hs
  intro L H locs cells slots lsC stC hn hx0 hW hS hc1 hc2 hl hst
  simp only [a_okI, Bool.and_eq_true, decide_eq_true_eq] at ho
  refine lv_sipush hx hb hd rfl ?_
  exact hK _ _ _ _ rfl L H locs cells slots lsC _ hn hx0 hW hS hc1 hc2 hl ⟨rfl, ⟨_, rfl, by rw [Int16.toInt_toInt32, Int16.toInt_ofInt_of_le (by omega) (by omega)]⟩, hst⟩
theorem g_lconst {n : Fin 2} (hx : p.tables.exec = Jvm.exec) (hb : c.code = cc) (hd : decode cc pc = .ok (.lconst n, 1)) (hs : a_step m pc (.lconst n) 1 ls st σ = some q) (hK : ∀ pc1 ls1 st1 σ1, q = .inl (pc1, ls1, st1, σ1) → a_Gd p l e R s mi args below meth c Z D tA bs aS L0 n0 mc ms cE sE pc1 ls1 st1 σ1) : a_Gd p l e R s mi args below meth c Z D tA bs aS L0 n0 mc ms cE sE pc ls st σ := by
  simp only [a_step] at hs
  have hs := Option.some.inj hs
  subst hs
  intro L H locs cells slots lsC stC hn hx0 hW hS hc1 hc2 hl hst
  refine lv_lconst hx hb hd rfl ?_
  exact hK _ _ _ _ rfl L H locs cells slots lsC _ hn hx0 hW hS hc1 hc2 hl ⟨rfl, ⟨_, rfl, i6_fin n⟩, hst⟩
theorem g_fconst {n : Fin 3} (hx : p.tables.exec = Jvm.exec) (hb : c.code = cc) (hd : decode cc pc = .ok (.fconst n, 1)) (hs : a_step m pc (.fconst n) 1 ls st σ = some q) (hK : ∀ pc1 ls1 st1 σ1, q = .inl (pc1, ls1, st1, σ1) → a_Gd p l e R s mi args below meth c Z D tA bs aS L0 n0 mc ms cE sE pc1 ls1 st1 σ1) : a_Gd p l e R s mi args below meth c Z D tA bs aS L0 n0 mc ms cE sE pc ls st σ := by
  simp only [a_step] at hs
  obtain ⟨h0, hs⟩ := a_ite hs
  subst h0
  have hs := Option.some.inj hs
  subst hs
  intro L H locs cells slots lsC stC hn hx0 hW hS hc1 hc2 hl hst
  refine lv_fconst0 hx hb hd ?_
  exact hK _ _ _ _ rfl L H locs cells slots lsC _ hn hx0 hW hS hc1 hc2 hl ⟨rfl, rfl, hst⟩
theorem g_dconst {n : Fin 2} (hx : p.tables.exec = Jvm.exec) (hb : c.code = cc) (hd : decode cc pc = .ok (.dconst n, 1)) (hs : a_step m pc (.dconst n) 1 ls st σ = some q) (hK : ∀ pc1 ls1 st1 σ1, q = .inl (pc1, ls1, st1, σ1) → a_Gd p l e R s mi args below meth c Z D tA bs aS L0 n0 mc ms cE sE pc1 ls1 st1 σ1) : a_Gd p l e R s mi args below meth c Z D tA bs aS L0 n0 mc ms cE sE pc ls st σ := by
  simp only [a_step] at hs
  obtain ⟨h0, hs⟩ := a_ite hs
  subst h0
  have hs := Option.some.inj hs
  subst hs
  intro L H locs cells slots lsC stC hn hx0 hW hS hc1 hc2 hl hst
  refine lv_dconst0 hx hb hd ?_
  exact hK _ _ _ _ rfl L H locs cells slots lsC _ hn hx0 hW hS hc1 hc2 hl ⟨rfl, rfl, hst⟩
theorem g_iload_n {n : Fin 4} (hx : p.tables.exec = Jvm.exec) (hb : c.code = cc) (hd : decode cc pc = .ok (.iload_n n, 1)) (hs : a_step m pc (.iload_n n) 1 ls st σ = some q) (hK : ∀ pc1 ls1 st1 σ1, q = .inl (pc1, ls1, st1, σ1) → a_Gd p l e R s mi args below meth c Z D tA bs aS L0 n0 mc ms cE sE pc1 ls1 st1 σ1) : a_Gd p l e R s mi args below meth c Z D tA bs aS L0 n0 mc ms cE sE pc ls st σ := by
  simp only [a_step] at hs
  obtain ⟨z, hz, hs⟩ := gI_some hs
  have hs := Option.some.inj hs
  subst hs
  intro L H locs cells slots lsC stC hn hx0 hW hS hc1 hc2 hl hst
  obtain ⟨v, e1, hv⟩ := hl.2.2 _ _ hz rfl
  obtain ⟨w, rfl, -⟩ := id hv
  refine lv_iload_n hx hb hd rfl  e1 ?_
  exact hK _ _ _ _ rfl L H locs cells slots lsC _ hn hx0 hW hS hc1 hc2 hl ⟨rfl, hv, hst⟩
theorem g_iload {n : Nat} (hx : p.tables.exec = Jvm.exec) (hb : c.code = cc) (hd : decode cc pc = .ok (.iload n, 2)) (hs : a_step m pc (.iload n) 2 ls st σ = some q) (hK : ∀ pc1 ls1 st1 σ1, q = .inl (pc1, ls1, st1, σ1) → a_Gd p l e R s mi args below meth c Z D tA bs aS L0 n0 mc ms cE sE pc1 ls1 st1 σ1) : a_Gd p l e R s mi args below meth c Z D tA bs aS L0 n0 mc ms cE sE pc ls st σ := by
  simp only [a_step] at hs
  obtain ⟨z, hz, hs⟩ := gI_some hs
  have hs := Option.some.inj hs
  subst hs
  intro L H locs cells slots lsC stC hn hx0 hW hS hc1 hc2 hl hst
  obtain ⟨v, e1, hv⟩ := hl.2.2 _ _ hz rfl
  obtain ⟨w, rfl, -⟩ := id hv
  refine lv_iload hx hb hd  e1 ?_
  exact hK _ _ _ _ rfl L H locs cells slots lsC _ hn hx0 hW hS hc1 hc2 hl ⟨rfl, hv, hst⟩
theorem g_lload_n {n : Fin 4} (hx : p.tables.exec = Jvm.exec) (hb : c.code = cc) (hd : decode cc pc = .ok (.lload_n n, 1)) (hs : a_step m pc (.lload_n n) 1 ls st σ = some q) (hK : ∀ pc1 ls1 st1 σ1, q = .inl (pc1, ls1, st1, σ1) → a_Gd p l e R s mi args below meth c Z D tA bs aS L0 n0 mc ms cE sE pc1 ls1 st1 σ1) : a_Gd p l e R s mi args below meth c Z D tA bs aS L0 n0 mc ms cE sE pc ls st σ := by
  simp only [a_step] at hs
  obtain ⟨z, hz, hs⟩ := gL_some hs
  have hs := Option.some.inj hs
  subst hs
  intro L H locs cells slots lsC stC hn hx0 hW hS hc1 hc2 hl hst
  obtain ⟨v, e1, hv⟩ := hl.2.2 _ _ hz rfl
  obtain ⟨w, rfl, -⟩ := id hv
  refine lv_lload_n hx hb hd rfl  e1 ?_
  exact hK _ _ _ _ rfl L H locs cells slots lsC _ hn hx0 hW hS hc1 hc2 hl ⟨rfl, hv, hst⟩
theorem g_lload {n : Nat} (hx : p.tables.exec = Jvm.exec) (hb : c.code = cc) (hd : decode cc pc = .ok (.lload n, 2)) (hs : a_step m pc (.lload n) 2 ls st σ = some q) (hK : ∀ pc1 ls1 st1 σ1, q = .inl (pc1, ls1, st1, σ1) → a_Gd p l e R s mi args below meth c Z D tA bs aS L0 n0 mc ms cE sE pc1 ls1 st1 σ1) : a_Gd p l e R s mi args below meth c Z D tA bs aS L0 n0 mc ms cE sE pc ls st σ := by
  simp only [a_step] at hs
  obtain ⟨z, hz, hs⟩ := gL_some hs
  have hs := Option.some.inj hs
  subst hs
  intro L H locs cells slots lsC stC hn hx0 hW hS hc1 hc2 hl hst
  obtain ⟨v, e1, hv⟩ := hl.2.2 _ _ hz rfl
  obtain ⟨w, rfl, -⟩ := id hv
  refine lv_lload hx hb hd  e1 ?_
  exact hK _ _ _ _ rfl L H locs cells slots lsC _ hn hx0 hW hS hc1 hc2 hl ⟨rfl, hv, hst⟩
theorem g_fload {n : Nat} (hx : p.tables.exec = Jvm.exec) (hb : c.code = cc) (hd : decode cc pc = .ok (.fload n, 2)) (hs : a_step m pc (.fload n) 2 ls st σ = some q) (hK : ∀ pc1 ls1 st1 σ1, q = .inl (pc1, ls1, st1, σ1) → a_Gd p l e R s mi args below meth c Z D tA bs aS L0 n0 mc ms cE sE pc1 ls1 st1 σ1) : a_Gd p l e R s mi args below meth c Z D tA bs aS L0 n0 mc ms cE sE pc ls st σ := by
  simp only [a_step] at hs
  obtain ⟨z, hz, hs⟩ := gF_some hs
  have hs := Option.some.inj hs
  subst hs
  intro L H locs cells slots lsC stC hn hx0 hW hS hc1 hc2 hl hst
  obtain ⟨v, e1, hv⟩ := hl.2.2 _ _ hz rfl
  obtain rfl : v = .float z := hv
  refine lv_fload hx hb hd  e1 ?_
  exact hK _ _ _ _ rfl L H locs cells slots lsC _ hn hx0 hW hS hc1 hc2 hl ⟨rfl, rfl, hst⟩
theorem g_dload {n : Nat} (hx : p.tables.exec = Jvm.exec) (hb : c.code = cc) (hd : decode cc pc = .ok (.dload n, 2)) (hs : a_step m pc (.dload n) 2 ls st σ = some q) (hK : ∀ pc1 ls1 st1 σ1, q = .inl (pc1, ls1, st1, σ1) → a_Gd p l e R s mi args below meth c Z D tA bs aS L0 n0 mc ms cE sE pc1 ls1 st1 σ1) : a_Gd p l e R s mi args below meth c Z D tA bs aS L0 n0 mc ms cE sE pc ls st σ := by
  simp only [a_step] at hs
  obtain ⟨z, hz, hs⟩ := gD_some hs
  have hs := Option.some.inj hs
  subst hs
  intro L H locs cells slots lsC stC hn hx0 hW hS hc1 hc2 hl hst
  obtain ⟨v, e1, hv⟩ := hl.2.2 _ _ hz rfl
  obtain rfl : v = .double z := hv
  refine lv_dload hx hb hd  e1 ?_
  exact hK _ _ _ _ rfl L H locs cells slots lsC _ hn hx0 hW hS hc1 hc2 hl ⟨rfl, rfl, hst⟩
theorem g_aload_n {n : Fin 4} (hx : p.tables.exec = Jvm.exec) (hb : c.code = cc) (hd : decode cc pc = .ok (.aload_n n, 1)) (hs : a_step m pc (.aload_n n) 1 ls st σ = some q) (hK : ∀ pc1 ls1 st1 σ1, q = .inl (pc1, ls1, st1, σ1) → a_Gd p l e R s mi args below meth c Z D tA bs aS L0 n0 mc ms cE sE pc1 ls1 st1 σ1) : a_Gd p l e R s mi args below meth c Z D tA bs aS L0 n0 mc ms cE sE pc ls st σ := by
  simp only [a_step] at hs
  obtain ⟨a, hz, hk, ha, hs⟩ := gA_some hs
  have hs := Option.some.inj hs
  subst hs
  intro L H locs cells slots lsC stC hn hx0 hW hS hc1 hc2 hl hst
  obtain ⟨v, e1, hv⟩ := hl.2.2 _ _ hz hk
  have hr : ∃ r, v = va_rf r := by
    rcases ha with ⟨z, rfl⟩ | rfl
    · obtain ⟨-, rfl⟩ := hv; exact a_null_rf _ _
    · exact hv
  obtain ⟨r, rfl⟩ := hr
  cases r with
  | none =>
    refine lv_aload_nN hx hb hd rfl e1 ?_
    exact hK _ _ _ _ rfl L H locs cells slots lsC _ hn hx0 hW hS hc1 hc2 hl ⟨hk, hv, hst⟩
  | some r =>
    refine lv_aload_n hx hb hd rfl e1 ?_
    exact hK _ _ _ _ rfl L H locs cells slots lsC _ hn hx0 hW hS hc1 hc2 hl ⟨hk, hv, hst⟩
theorem g_aload {n : Nat} (hx : p.tables.exec = Jvm.exec) (hb : c.code = cc) (hd : decode cc pc = .ok (.aload n, 2)) (hs : a_step m pc (.aload n) 2 ls st σ = some q) (hK : ∀ pc1 ls1 st1 σ1, q = .inl (pc1, ls1, st1, σ1) → a_Gd p l e R s mi args below meth c Z D tA bs aS L0 n0 mc ms cE sE pc1 ls1 st1 σ1) : a_Gd p l e R s mi args below meth c Z D tA bs aS L0 n0 mc ms cE sE pc ls st σ := by
  simp only [a_step] at hs
  obtain ⟨a, hz, hk, ha, hs⟩ := gA_some hs
  have hs := Option.some.inj hs
  subst hs
  intro L H locs cells slots lsC stC hn hx0 hW hS hc1 hc2 hl hst
  obtain ⟨v, e1, hv⟩ := hl.2.2 _ _ hz hk
  have hr : ∃ r, v = va_rf r := by
    rcases ha with ⟨z, rfl⟩ | rfl
    · obtain ⟨-, rfl⟩ := hv; exact a_null_rf _ _
    · exact hv
  obtain ⟨r, rfl⟩ := hr
  cases r with
  | none =>
    refine lv_aloadN hx hb hd e1 ?_
    exact hK _ _ _ _ rfl L H locs cells slots lsC _ hn hx0 hW hS hc1 hc2 hl ⟨hk, hv, hst⟩
  | some r =>
    refine lv_aload hx hb hd e1 ?_
    exact hK _ _ _ _ rfl L H locs cells slots lsC _ hn hx0 hW hS hc1 hc2 hl ⟨hk, hv, hst⟩
theorem g_istore_n {n : Fin 4} (hx : p.tables.exec = Jvm.exec) (hb : c.code = cc) (hd : decode cc pc = .ok (.istore_n n, 1)) (hs : a_step m pc (.istore_n n) 1 ls st σ = some q) (hK : ∀ pc1 ls1 st1 σ1, q = .inl (pc1, ls1, st1, σ1) → a_Gd p l e R s mi args below meth c Z D tA bs aS L0 n0 mc ms cE sE pc1 ls1 st1 σ1) : a_Gd p l e R s mi args below meth c Z D tA bs aS L0 n0 mc ms cE sE pc ls st σ := by
  simp only [a_step] at hs
  obtain ⟨z, st1, est, h9⟩ := pI_some hs
  subst est
  clear hs
  have hs := h9
  clear h9
  obtain ⟨hf, hi, hs⟩ := s1_some hs
  have hs := Option.some.inj hs
  subst hs
  intro L H locs cells slots lsC stC hn hx0 hW hS hc1 hc2 hl hst
  obtain ⟨w, v1, ev, ew, h9⟩ := st_i hst
  subst ev
  clear hst
  have hst := h9
  clear h9
  refine lv_istore_n hx hb hd rfl hl.full hi rfl (fun ls1 h1 => ?_)
  exact hK _ _ _ _ rfl L H locs cells slots ls1 _ hn hx0 hW hS hc1 hc2 (hl.s1 hf hi ⟨_, rfl, ew⟩ h1) hst
theorem g_istore {n : Nat} (hx : p.tables.exec = Jvm.exec) (hb : c.code = cc) (hd : decode cc pc = .ok (.istore n, 2)) (hs : a_step m pc (.istore n) 2 ls st σ = some q) (hK : ∀ pc1 ls1 st1 σ1, q = .inl (pc1, ls1, st1, σ1) → a_Gd p l e R s mi args below meth c Z D tA bs aS L0 n0 mc ms cE sE pc1 ls1 st1 σ1) : a_Gd p l e R s mi args below meth c Z D tA bs aS L0 n0 mc ms cE sE pc ls st σ := by
  simp only [a_step] at hs
  obtain ⟨z, st1, est, h9⟩ := pI_some hs
  subst est
  clear hs
  have hs := h9
  clear h9
  obtain ⟨hf, hi, hs⟩ := s1_some hs
  have hs := Option.some.inj hs
  subst hs
  intro L H locs cells slots lsC stC hn hx0 hW hS hc1 hc2 hl hst
  obtain ⟨w, v1, ev, ew, h9⟩ := st_i hst
  subst ev
  clear hst
  have hst := h9
  clear h9
  refine lv_istore hx hb hd hl.full hi rfl (fun ls1 h1 => ?_)
  exact hK _ _ _ _ rfl L H locs cells slots ls1 _ hn hx0 hW hS hc1 hc2 (hl.s1 hf hi ⟨_, rfl, ew⟩ h1) hst
theorem g_astore_nV {n : Fin 4} {a : AV} {v : Value} {st1 : List AV} {v1 : List Value} (hx : p.tables.exec = Jvm.exec) (hb : c.code = cc) (hd : decode cc pc = .ok (.astore_n n, 1)) (hf : a_free ls n.val = true) (hi : n.val < ls.length) (hK : a_Gd p l e R s mi args below meth c Z D tA bs aS L0 n0 mc ms cE sE (pc + 1) (ls.set n.val a) st1 σ) {L : Nat → Nat} {H : Heap} {locs : List Loc} {cells slots : Nat} {lsC : Array Slot} (hn : n0 ≤ σ.2.2.2.1) (hx0 : a_ex L0 L n0) (hW : a_W D tA bs aS L σ s H) (hS : va_S (a_A bs) s.heap H locs) (hc1 : cells + cE ≤ mc + σ.2.2.2.2.1) (hc2 : slots + sE ≤ ms + σ.2.2.2.2.2) (hl : a_lo L σ.2.2.2.1 ls lsC) (hr : ∃ r, v = va_rf r) (hv : a_rl L σ.2.2.2.1 a v) (hst : a_st L σ.2.2.2.1 st1 v1) : W p l e R s mi args below meth c H locs cells slots Z (F0 mi pc lsC (v :: v1)) := by
  obtain ⟨r, rfl⟩ := hr
  cases r with
  | none =>
    refine lv_astore_nN hx hb hd rfl hl.full hi rfl (fun ls1 h1 => ?_)
    exact hK L H locs cells slots ls1 _ hn hx0 hW hS hc1 hc2 (hl.s1 hf hi hv h1) hst
  | some r =>
    refine lv_astore_n hx hb hd rfl hl.full hi rfl (fun ls1 h1 => ?_)
    exact hK L H locs cells slots ls1 _ hn hx0 hW hS hc1 hc2 (hl.s1 hf hi hv h1) hst
theorem g_astore_n {n : Fin 4} (hx : p.tables.exec = Jvm.exec) (hb : c.code = cc) (hd : decode cc pc = .ok (.astore_n n, 1)) (hs : a_step m pc (.astore_n n) 1 ls st σ = some q) (hK : ∀ pc1 ls1 st1 σ1, q = .inl (pc1, ls1, st1, σ1) → a_Gd p l e R s mi args below meth c Z D tA bs aS L0 n0 mc ms cE sE pc1 ls1 st1 σ1) : a_Gd p l e R s mi args below meth c Z D tA bs aS L0 n0 mc ms cE sE pc ls st σ := by
  simp only [a_step] at hs
  rcases pA_some hs with ⟨z, st1, est, h9⟩ | ⟨st1, est, h9⟩
  · subst est
    obtain ⟨hf, hi, hs⟩ := s1_some h9
    have hs := Option.some.inj hs
    subst hs
    intro L H locs cells slots lsC stC hn hx0 hW hS hc1 hc2 hl hst
    obtain ⟨v, v1, rfl, -, hv, hst⟩ := st_v hst
    exact g_astore_nV hx hb hd hf hi (hK _ _ _ _ rfl) hn hx0 hW hS hc1 hc2 hl (by obtain ⟨-, rfl⟩ := hv; exact a_null_rf _ _) hv hst
  · subst est
    obtain ⟨hf, hi, hs⟩ := s1_some h9
    have hs := Option.some.inj hs
    subst hs
    intro L H locs cells slots lsC stC hn hx0 hW hS hc1 hc2 hl hst
    obtain ⟨v, v1, rfl, -, hv, hst⟩ := st_v hst
    exact g_astore_nV hx hb hd hf hi (hK _ _ _ _ rfl) hn hx0 hW hS hc1 hc2 hl hv hv hst
theorem g_astoreV {n : Nat} {a : AV} {v : Value} {st1 : List AV} {v1 : List Value} (hx : p.tables.exec = Jvm.exec) (hb : c.code = cc) (hd : decode cc pc = .ok (.astore n, 2)) (hf : a_free ls n = true) (hi : n < ls.length) (hK : a_Gd p l e R s mi args below meth c Z D tA bs aS L0 n0 mc ms cE sE (pc + 2) (ls.set n a) st1 σ) {L : Nat → Nat} {H : Heap} {locs : List Loc} {cells slots : Nat} {lsC : Array Slot} (hn : n0 ≤ σ.2.2.2.1) (hx0 : a_ex L0 L n0) (hW : a_W D tA bs aS L σ s H) (hS : va_S (a_A bs) s.heap H locs) (hc1 : cells + cE ≤ mc + σ.2.2.2.2.1) (hc2 : slots + sE ≤ ms + σ.2.2.2.2.2) (hl : a_lo L σ.2.2.2.1 ls lsC) (hr : ∃ r, v = va_rf r) (hv : a_rl L σ.2.2.2.1 a v) (hst : a_st L σ.2.2.2.1 st1 v1) : W p l e R s mi args below meth c H locs cells slots Z (F0 mi pc lsC (v :: v1)) := by
  obtain ⟨r, rfl⟩ := hr
  cases r with
  | none =>
    refine lv_astoreN hx hb hd hl.full hi rfl (fun ls1 h1 => ?_)
    exact hK L H locs cells slots ls1 _ hn hx0 hW hS hc1 hc2 (hl.s1 hf hi hv h1) hst
  | some r =>
    refine lv_astore hx hb hd hl.full hi rfl (fun ls1 h1 => ?_)
    exact hK L H locs cells slots ls1 _ hn hx0 hW hS hc1 hc2 (hl.s1 hf hi hv h1) hst
theorem g_astore {n : Nat} (hx : p.tables.exec = Jvm.exec) (hb : c.code = cc) (hd : decode cc pc = .ok (.astore n, 2)) (hs : a_step m pc (.astore n) 2 ls st σ = some q) (hK : ∀ pc1 ls1 st1 σ1, q = .inl (pc1, ls1, st1, σ1) → a_Gd p l e R s mi args below meth c Z D tA bs aS L0 n0 mc ms cE sE pc1 ls1 st1 σ1) : a_Gd p l e R s mi args below meth c Z D tA bs aS L0 n0 mc ms cE sE pc ls st σ := by
  simp only [a_step] at hs
  rcases pA_some hs with ⟨z, st1, est, h9⟩ | ⟨st1, est, h9⟩
  · subst est
    obtain ⟨hf, hi, hs⟩ := s1_some h9
    have hs := Option.some.inj hs
    subst hs
    intro L H locs cells slots lsC stC hn hx0 hW hS hc1 hc2 hl hst
    obtain ⟨v, v1, rfl, -, hv, hst⟩ := st_v hst
    exact g_astoreV hx hb hd hf hi (hK _ _ _ _ rfl) hn hx0 hW hS hc1 hc2 hl (by obtain ⟨-, rfl⟩ := hv; exact a_null_rf _ _) hv hst
  · subst est
    obtain ⟨hf, hi, hs⟩ := s1_some h9
    have hs := Option.some.inj hs
    subst hs
    intro L H locs cells slots lsC stC hn hx0 hW hS hc1 hc2 hl hst
    obtain ⟨v, v1, rfl, -, hv, hst⟩ := st_v hst
    exact g_astoreV hx hb hd hf hi (hK _ _ _ _ rfl) hn hx0 hW hS hc1 hc2 hl hv hv hst
theorem g_fstore {n : Nat} (hx : p.tables.exec = Jvm.exec) (hb : c.code = cc) (hd : decode cc pc = .ok (.fstore n, 2)) (hs : a_step m pc (.fstore n) 2 ls st σ = some q) (hK : ∀ pc1 ls1 st1 σ1, q = .inl (pc1, ls1, st1, σ1) → a_Gd p l e R s mi args below meth c Z D tA bs aS L0 n0 mc ms cE sE pc1 ls1 st1 σ1) : a_Gd p l e R s mi args below meth c Z D tA bs aS L0 n0 mc ms cE sE pc ls st σ := by
  simp only [a_step] at hs
  obtain ⟨z, st1, est, h9⟩ := pF_some hs
  subst est
  clear hs
  have hs := h9
  clear h9
  obtain ⟨hf, hi, hs⟩ := s1_some hs
  have hs := Option.some.inj hs
  subst hs
  intro L H locs cells slots lsC stC hn hx0 hW hS hc1 hc2 hl hst
  obtain ⟨v1, ev, h9⟩ := st_f hst
  subst ev
  clear hst
  have hst := h9
  clear h9
  refine lv_fstore hx hb hd hl.full hi rfl (fun ls1 h1 => ?_)
  exact hK _ _ _ _ rfl L H locs cells slots ls1 _ hn hx0 hW hS hc1 hc2 (hl.s1 hf hi rfl h1) hst
theorem g_dstore {n : Nat} (hx : p.tables.exec = Jvm.exec) (hb : c.code = cc) (hd : decode cc pc = .ok (.dstore n, 2)) (hs : a_step m pc (.dstore n) 2 ls st σ = some q) (hK : ∀ pc1 ls1 st1 σ1, q = .inl (pc1, ls1, st1, σ1) → a_Gd p l e R s mi args below meth c Z D tA bs aS L0 n0 mc ms cE sE pc1 ls1 st1 σ1) : a_Gd p l e R s mi args below meth c Z D tA bs aS L0 n0 mc ms cE sE pc ls st σ := by
  simp only [a_step] at hs
  obtain ⟨z, st1, est, h9⟩ := pD_some hs
  subst est
  clear hs
  have hs := h9
  clear h9
  obtain ⟨hf, hi, hs⟩ := s2_some hs
  have hs := Option.some.inj hs
  subst hs
  intro L H locs cells slots lsC stC hn hx0 hW hS hc1 hc2 hl hst
  obtain ⟨v1, ev, h9⟩ := st_d hst
  subst ev
  clear hst
  have hst := h9
  clear h9
  refine lv_dstore hx hb hd hl.full hi rfl (fun ls1 h1 => ?_)
  exact hK _ _ _ _ rfl L H locs cells slots ls1 _ hn hx0 hW hS hc1 hc2 (hl.s2 hf hi rfl h1) hst
theorem g_iinc {n : Nat} {z : Int} (hx : p.tables.exec = Jvm.exec) (hb : c.code = cc) (hd : decode cc pc = .ok (.iinc n z, 3)) (hs : a_step m pc (.iinc n z) 3 ls st σ = some q) (hK : ∀ pc1 ls1 st1 σ1, q = .inl (pc1, ls1, st1, σ1) → a_Gd p l e R s mi args below meth c Z D tA bs aS L0 n0 mc ms cE sE pc1 ls1 st1 σ1) : a_Gd p l e R s mi args below meth c Z D tA bs aS L0 n0 mc ms cE sE pc ls st σ := by
  simp only [a_step] at hs
  obtain ⟨x, hz, hs⟩ := gI_some hs
  obtain ⟨hf, hi, hs⟩ := s1_some hs
  have hs := Option.some.inj hs
  subst hs
  intro L H locs cells slots lsC stC hn hx0 hW hS hc1 hc2 hl hst
  obtain ⟨v, e1, hv⟩ := hl.2.2 _ _ hz rfl
  obtain ⟨w, rfl, ew⟩ := hv
  obtain ⟨k, hk⟩ := List.getElem?_of_mem (lv_full_mem.mpr e1)
  refine lv_iinc hx hb hd hl.full hk rfl hi rfl (fun ls1 h1 => ?_)
  exact hK _ _ _ _ rfl L H locs cells slots ls1 _ hn hx0 hW hS hc1 hc2 (hl.s1 hf hi ⟨_, rfl, by rw [i3_add, ew, Int32.toInt_ofInt, wr_bmod, wr_bmod, Int.add_bmod_bmod]⟩ h1) hst
theorem g_pop (hx : p.tables.exec = Jvm.exec) (hb : c.code = cc) (hd : decode cc pc = .ok (.pop, 1)) (hs : a_step m pc (.pop) 1 ls st σ = some q) (hK : ∀ pc1 ls1 st1 σ1, q = .inl (pc1, ls1, st1, σ1) → a_Gd p l e R s mi args below meth c Z D tA bs aS L0 n0 mc ms cE sE pc1 ls1 st1 σ1) : a_Gd p l e R s mi args below meth c Z D tA bs aS L0 n0 mc ms cE sE pc ls st σ := by
  simp only [a_step] at hs
  obtain ⟨a, st1, est, h9⟩ := pV_some hs
  subst est
  clear hs
  have hs := h9
  clear h9
  obtain ⟨h0, hs⟩ := a_ite hs
  have hs := Option.some.inj hs
  subst hs
  intro L H locs cells slots lsC stC hn hx0 hW hS hc1 hc2 hl hst
  obtain ⟨v, v1, rfl, hk, hv, hst⟩ := st_v hst
  refine lv_pop hx hb hd ((a_rl_cat hv hk).trans h0.2) ?_
  exact hK _ _ _ _ rfl L H locs cells slots lsC _ hn hx0 hW hS hc1 hc2 hl hst
theorem g_dup (hx : p.tables.exec = Jvm.exec) (hb : c.code = cc) (hd : decode cc pc = .ok (.dup, 1)) (hs : a_step m pc (.dup) 1 ls st σ = some q) (hK : ∀ pc1 ls1 st1 σ1, q = .inl (pc1, ls1, st1, σ1) → a_Gd p l e R s mi args below meth c Z D tA bs aS L0 n0 mc ms cE sE pc1 ls1 st1 σ1) : a_Gd p l e R s mi args below meth c Z D tA bs aS L0 n0 mc ms cE sE pc ls st σ := by
  simp only [a_step] at hs
  obtain ⟨a, st1, est, h9⟩ := pV_some hs
  subst est
  clear hs
  have hs := h9
  clear h9
  obtain ⟨h0, hs⟩ := a_ite hs
  have hs := Option.some.inj hs
  subst hs
  intro L H locs cells slots lsC stC hn hx0 hW hS hc1 hc2 hl hst
  obtain ⟨v, v1, rfl, hk, hv, hst⟩ := st_v hst
  refine lv_dup hx hb hd ((a_rl_cat hv hk).trans h0.2) ?_
  exact hK _ _ _ _ rfl L H locs cells slots lsC _ hn hx0 hW hS hc1 hc2 hl ⟨hk, hv, hk, hv, hst⟩
theorem g_dup2 (hx : p.tables.exec = Jvm.exec) (hb : c.code = cc) (hd : decode cc pc = .ok (.dup2, 1)) (hs : a_step m pc (.dup2) 1 ls st σ = some q) (hK : ∀ pc1 ls1 st1 σ1, q = .inl (pc1, ls1, st1, σ1) → a_Gd p l e R s mi args below meth c Z D tA bs aS L0 n0 mc ms cE sE pc1 ls1 st1 σ1) : a_Gd p l e R s mi args below meth c Z D tA bs aS L0 n0 mc ms cE sE pc ls st σ := by
  simp only [a_step] at hs
  obtain ⟨a, st0, est, h9⟩ := pV_some hs
  subst est
  clear hs
  have hs := h9
  clear h9
  obtain ⟨b, st1, est, h9⟩ := pV_some hs
  subst est
  clear hs
  have hs := h9
  clear h9
  obtain ⟨h0, hs⟩ := a_ite hs
  have hs := Option.some.inj hs
  subst hs
  intro L H locs cells slots lsC stC hn hx0 hW hS hc1 hc2 hl hst
  obtain ⟨v, v1, rfl, hk, hv, hst⟩ := st_v hst
  obtain ⟨w, w1, rfl, hk2, hv2, hst⟩ := st_v hst
  refine lv_dup2_11 hx hb hd ((a_rl_cat hv hk).trans h0.2.1) ((a_rl_cat hv2 hk2).trans h0.2.2.2) ?_
  exact hK _ _ _ _ rfl L H locs cells slots lsC _ hn hx0 hW hS hc1 hc2 hl ⟨hk, hv, hk2, hv2, hk, hv, hk2, hv2, hst⟩
theorem g_iadd (hx : p.tables.exec = Jvm.exec) (hb : c.code = cc) (hd : decode cc pc = .ok (.iadd, 1)) (hs : a_step m pc (.iadd) 1 ls st σ = some q) (hK : ∀ pc1 ls1 st1 σ1, q = .inl (pc1, ls1, st1, σ1) → a_Gd p l e R s mi args below meth c Z D tA bs aS L0 n0 mc ms cE sE pc1 ls1 st1 σ1) : a_Gd p l e R s mi args below meth c Z D tA bs aS L0 n0 mc ms cE sE pc ls st σ := by
  simp only [a_step] at hs
  obtain ⟨x, y, st1, est, h9⟩ := pII_some hs
  subst est
  clear hs
  have hs := h9
  clear h9
  have hs := Option.some.inj hs
  subst hs
  intro L H locs cells slots lsC stC hn hx0 hW hS hc1 hc2 hl hst
  obtain ⟨wy, v1, ev, ey, h9⟩ := st_i hst
  subst ev
  clear hst
  have hst := h9
  clear h9
  obtain ⟨wx, v2, ev, ex, h9⟩ := st_i hst
  subst ev
  clear hst
  have hst := h9
  clear h9
  refine lv_iadd hx hb hd ?_
  exact hK _ _ _ _ rfl L H locs cells slots lsC _ hn hx0 hW hS hc1 hc2 hl ⟨rfl, ⟨_, rfl, by rw [i3_add, ex, ey]⟩, hst⟩
theorem g_isub (hx : p.tables.exec = Jvm.exec) (hb : c.code = cc) (hd : decode cc pc = .ok (.isub, 1)) (hs : a_step m pc (.isub) 1 ls st σ = some q) (hK : ∀ pc1 ls1 st1 σ1, q = .inl (pc1, ls1, st1, σ1) → a_Gd p l e R s mi args below meth c Z D tA bs aS L0 n0 mc ms cE sE pc1 ls1 st1 σ1) : a_Gd p l e R s mi args below meth c Z D tA bs aS L0 n0 mc ms cE sE pc ls st σ := by
  simp only [a_step] at hs
  obtain ⟨x, y, st1, est, h9⟩ := pII_some hs
  subst est
  clear hs
  have hs := h9
  clear h9
  have hs := Option.some.inj hs
  subst hs
  intro L H locs cells slots lsC stC hn hx0 hW hS hc1 hc2 hl hst
  obtain ⟨wy, v1, ev, ey, h9⟩ := st_i hst
  subst ev
  clear hst
  have hst := h9
  clear h9
  obtain ⟨wx, v2, ev, ex, h9⟩ := st_i hst
  subst ev
  clear hst
  have hst := h9
  clear h9
  refine lv_isub hx hb hd ?_
  exact hK _ _ _ _ rfl L H locs cells slots lsC _ hn hx0 hW hS hc1 hc2 hl ⟨rfl, ⟨_, rfl, by rw [i3_sub, ex, ey]⟩, hst⟩
theorem g_imul (hx : p.tables.exec = Jvm.exec) (hb : c.code = cc) (hd : decode cc pc = .ok (.imul, 1)) (hs : a_step m pc (.imul) 1 ls st σ = some q) (hK : ∀ pc1 ls1 st1 σ1, q = .inl (pc1, ls1, st1, σ1) → a_Gd p l e R s mi args below meth c Z D tA bs aS L0 n0 mc ms cE sE pc1 ls1 st1 σ1) : a_Gd p l e R s mi args below meth c Z D tA bs aS L0 n0 mc ms cE sE pc ls st σ := by
  simp only [a_step] at hs
  obtain ⟨x, y, st1, est, h9⟩ := pII_some hs
  subst est
  clear hs
  have hs := h9
  clear h9
  have hs := Option.some.inj hs
  subst hs
  intro L H locs cells slots lsC stC hn hx0 hW hS hc1 hc2 hl hst
  obtain ⟨wy, v1, ev, ey, h9⟩ := st_i hst
  subst ev
  clear hst
  have hst := h9
  clear h9
  obtain ⟨wx, v2, ev, ex, h9⟩ := st_i hst
  subst ev
  clear hst
  have hst := h9
  clear h9
  refine lv_imul hx hb hd ?_
  exact hK _ _ _ _ rfl L H locs cells slots lsC _ hn hx0 hW hS hc1 hc2 hl ⟨rfl, ⟨_, rfl, by rw [i3_mul, ex, ey]⟩, hst⟩
theorem g_iand (hx : p.tables.exec = Jvm.exec) (hb : c.code = cc) (hd : decode cc pc = .ok (.iand, 1)) (hs : a_step m pc (.iand) 1 ls st σ = some q) (hK : ∀ pc1 ls1 st1 σ1, q = .inl (pc1, ls1, st1, σ1) → a_Gd p l e R s mi args below meth c Z D tA bs aS L0 n0 mc ms cE sE pc1 ls1 st1 σ1) : a_Gd p l e R s mi args below meth c Z D tA bs aS L0 n0 mc ms cE sE pc ls st σ := by
  simp only [a_step] at hs
  obtain ⟨x, y, st1, est, h9⟩ := pII_some hs
  subst est
  clear hs
  have hs := h9
  clear h9
  have hs := Option.some.inj hs
  subst hs
  intro L H locs cells slots lsC stC hn hx0 hW hS hc1 hc2 hl hst
  obtain ⟨wy, v1, ev, ey, h9⟩ := st_i hst
  subst ev
  clear hst
  have hst := h9
  clear h9
  obtain ⟨wx, v2, ev, ex, h9⟩ := st_i hst
  subst ev
  clear hst
  have hst := h9
  clear h9
  refine lv_iand hx hb hd ?_
  exact hK _ _ _ _ rfl L H locs cells slots lsC _ hn hx0 hW hS hc1 hc2 hl ⟨rfl, ⟨_, rfl, by rw [← ex, ← ey, zand, i3_to, i3_to]⟩, hst⟩
theorem g_ior (hx : p.tables.exec = Jvm.exec) (hb : c.code = cc) (hd : decode cc pc = .ok (.ior, 1)) (hs : a_step m pc (.ior) 1 ls st σ = some q) (hK : ∀ pc1 ls1 st1 σ1, q = .inl (pc1, ls1, st1, σ1) → a_Gd p l e R s mi args below meth c Z D tA bs aS L0 n0 mc ms cE sE pc1 ls1 st1 σ1) : a_Gd p l e R s mi args below meth c Z D tA bs aS L0 n0 mc ms cE sE pc ls st σ := by
  simp only [a_step] at hs
  obtain ⟨x, y, st1, est, h9⟩ := pII_some hs
  subst est
  clear hs
  have hs := h9
  clear h9
  have hs := Option.some.inj hs
  subst hs
  intro L H locs cells slots lsC stC hn hx0 hW hS hc1 hc2 hl hst
  obtain ⟨wy, v1, ev, ey, h9⟩ := st_i hst
  subst ev
  clear hst
  have hst := h9
  clear h9
  obtain ⟨wx, v2, ev, ex, h9⟩ := st_i hst
  subst ev
  clear hst
  have hst := h9
  clear h9
  refine lv_ior hx hb hd ?_
  exact hK _ _ _ _ rfl L H locs cells slots lsC _ hn hx0 hW hS hc1 hc2 hl ⟨rfl, ⟨_, rfl, by rw [← ex, ← ey, zor, i3_to, i3_to]⟩, hst⟩
theorem g_ishl (hx : p.tables.exec = Jvm.exec) (hb : c.code = cc) (hd : decode cc pc = .ok (.ishl, 1)) (hs : a_step m pc (.ishl) 1 ls st σ = some q) (hK : ∀ pc1 ls1 st1 σ1, q = .inl (pc1, ls1, st1, σ1) → a_Gd p l e R s mi args below meth c Z D tA bs aS L0 n0 mc ms cE sE pc1 ls1 st1 σ1) : a_Gd p l e R s mi args below meth c Z D tA bs aS L0 n0 mc ms cE sE pc ls st σ := by
  simp only [a_step] at hs
  obtain ⟨x, y, st1, est, h9⟩ := pII_some hs
  subst est
  clear hs
  have hs := h9
  clear h9
  have hs := Option.some.inj hs
  subst hs
  intro L H locs cells slots lsC stC hn hx0 hW hS hc1 hc2 hl hst
  obtain ⟨wy, v1, ev, ey, h9⟩ := st_i hst
  subst ev
  clear hst
  have hst := h9
  clear h9
  obtain ⟨wx, v2, ev, ex, h9⟩ := st_i hst
  subst ev
  clear hst
  have hst := h9
  clear h9
  refine lv_ishl hx hb hd ?_
  exact hK _ _ _ _ rfl L H locs cells slots lsC _ hn hx0 hW hS hc1 hc2 hl ⟨rfl, ⟨_, rfl, by rw [← ex, ← ey, zshl, i3_to, i3_to]⟩, hst⟩
theorem g_ishr (hx : p.tables.exec = Jvm.exec) (hb : c.code = cc) (hd : decode cc pc = .ok (.ishr, 1)) (hs : a_step m pc (.ishr) 1 ls st σ = some q) (hK : ∀ pc1 ls1 st1 σ1, q = .inl (pc1, ls1, st1, σ1) → a_Gd p l e R s mi args below meth c Z D tA bs aS L0 n0 mc ms cE sE pc1 ls1 st1 σ1) : a_Gd p l e R s mi args below meth c Z D tA bs aS L0 n0 mc ms cE sE pc ls st σ := by
  simp only [a_step] at hs
  obtain ⟨x, y, st1, est, h9⟩ := pII_some hs
  subst est
  clear hs
  have hs := h9
  clear h9
  have hs := Option.some.inj hs
  subst hs
  intro L H locs cells slots lsC stC hn hx0 hW hS hc1 hc2 hl hst
  obtain ⟨wy, v1, ev, ey, h9⟩ := st_i hst
  subst ev
  clear hst
  have hst := h9
  clear h9
  obtain ⟨wx, v2, ev, ex, h9⟩ := st_i hst
  subst ev
  clear hst
  have hst := h9
  clear h9
  refine lv_ishr hx hb hd ?_
  exact hK _ _ _ _ rfl L H locs cells slots lsC _ hn hx0 hW hS hc1 hc2 hl ⟨rfl, ⟨_, rfl, by rw [← ex, ← ey, zshr, i3_to, i3_to]⟩, hst⟩
theorem g_iushr (hx : p.tables.exec = Jvm.exec) (hb : c.code = cc) (hd : decode cc pc = .ok (.iushr, 1)) (hs : a_step m pc (.iushr) 1 ls st σ = some q) (hK : ∀ pc1 ls1 st1 σ1, q = .inl (pc1, ls1, st1, σ1) → a_Gd p l e R s mi args below meth c Z D tA bs aS L0 n0 mc ms cE sE pc1 ls1 st1 σ1) : a_Gd p l e R s mi args below meth c Z D tA bs aS L0 n0 mc ms cE sE pc ls st σ := by
  simp only [a_step] at hs
  obtain ⟨x, y, st1, est, h9⟩ := pII_some hs
  subst est
  clear hs
  have hs := h9
  clear h9
  have hs := Option.some.inj hs
  subst hs
  intro L H locs cells slots lsC stC hn hx0 hW hS hc1 hc2 hl hst
  obtain ⟨wy, v1, ev, ey, h9⟩ := st_i hst
  subst ev
  clear hst
  have hst := h9
  clear h9
  obtain ⟨wx, v2, ev, ex, h9⟩ := st_i hst
  subst ev
  clear hst
  have hst := h9
  clear h9
  refine lv_iushr hx hb hd rfl ?_
  exact hK _ _ _ _ rfl L H locs cells slots lsC _ hn hx0 hW hS hc1 hc2 hl ⟨rfl, ⟨_, rfl, by rw [← ex, ← ey, zushr, i3_to, i3_to]⟩, hst⟩
theorem g_idiv (hx : p.tables.exec = Jvm.exec) (hb : c.code = cc) (hd : decode cc pc = .ok (.idiv, 1)) (hs : a_step m pc (.idiv) 1 ls st σ = some q) (hK : ∀ pc1 ls1 st1 σ1, q = .inl (pc1, ls1, st1, σ1) → a_Gd p l e R s mi args below meth c Z D tA bs aS L0 n0 mc ms cE sE pc1 ls1 st1 σ1) : a_Gd p l e R s mi args below meth c Z D tA bs aS L0 n0 mc ms cE sE pc ls st σ := by
  simp only [a_step] at hs
  obtain ⟨x, y, st1, est, h9⟩ := pII_some hs
  subst est
  clear hs
  have hs := h9
  clear h9
  obtain ⟨h0, hs⟩ := a_ite hs
  have hs := Option.some.inj hs
  subst hs
  intro L H locs cells slots lsC stC hn hx0 hW hS hc1 hc2 hl hst
  obtain ⟨wy, v1, ev, ey, h9⟩ := st_i hst
  subst ev
  clear hst
  have hst := h9
  clear h9
  obtain ⟨wx, v2, ev, ex, h9⟩ := st_i hst
  subst ev
  clear hst
  have hst := h9
  clear h9
  have hy : ¬ wy = 0 := fun z => h0 (by rw [← ey, z]; rfl)
  refine lv_idiv hx hb hd hy ?_
  exact hK _ _ _ _ rfl L H locs cells slots lsC _ hn hx0 hW hS hc1 hc2 hl ⟨rfl, ⟨_, rfl, by rw [i3_div, ex, ey]⟩, hst⟩
theorem g_irem (hx : p.tables.exec = Jvm.exec) (hb : c.code = cc) (hd : decode cc pc = .ok (.irem, 1)) (hs : a_step m pc (.irem) 1 ls st σ = some q) (hK : ∀ pc1 ls1 st1 σ1, q = .inl (pc1, ls1, st1, σ1) → a_Gd p l e R s mi args below meth c Z D tA bs aS L0 n0 mc ms cE sE pc1 ls1 st1 σ1) : a_Gd p l e R s mi args below meth c Z D tA bs aS L0 n0 mc ms cE sE pc ls st σ := by
  simp only [a_step] at hs
  obtain ⟨x, y, st1, est, h9⟩ := pII_some hs
  subst est
  clear hs
  have hs := h9
  clear h9
  obtain ⟨h0, hs⟩ := a_ite hs
  have hs := Option.some.inj hs
  subst hs
  intro L H locs cells slots lsC stC hn hx0 hW hS hc1 hc2 hl hst
  obtain ⟨wy, v1, ev, ey, h9⟩ := st_i hst
  subst ev
  clear hst
  have hst := h9
  clear h9
  obtain ⟨wx, v2, ev, ex, h9⟩ := st_i hst
  subst ev
  clear hst
  have hst := h9
  clear h9
  have hy : ¬ wy = 0 := fun z => h0 (by rw [← ey, z]; rfl)
  refine lv_irem hx hb hd hy ?_
  exact hK _ _ _ _ rfl L H locs cells slots lsC _ hn hx0 hW hS hc1 hc2 hl ⟨rfl, ⟨_, rfl, by rw [i3_rem _ _ hy, ex, ey]⟩, hst⟩
theorem g_ladd (hx : p.tables.exec = Jvm.exec) (hb : c.code = cc) (hd : decode cc pc = .ok (.ladd, 1)) (hs : a_step m pc (.ladd) 1 ls st σ = some q) (hK : ∀ pc1 ls1 st1 σ1, q = .inl (pc1, ls1, st1, σ1) → a_Gd p l e R s mi args below meth c Z D tA bs aS L0 n0 mc ms cE sE pc1 ls1 st1 σ1) : a_Gd p l e R s mi args below meth c Z D tA bs aS L0 n0 mc ms cE sE pc ls st σ := by
  simp only [a_step] at hs
  obtain ⟨x, y, st1, est, h9⟩ := pLL_some hs
  subst est
  clear hs
  have hs := h9
  clear h9
  have hs := Option.some.inj hs
  subst hs
  intro L H locs cells slots lsC stC hn hx0 hW hS hc1 hc2 hl hst
  obtain ⟨wy, v1, ev, ey, h9⟩ := st_l hst
  subst ev
  clear hst
  have hst := h9
  clear h9
  obtain ⟨wx, v2, ev, ex, h9⟩ := st_l hst
  subst ev
  clear hst
  have hst := h9
  clear h9
  refine lv_ladd hx hb hd ?_
  exact hK _ _ _ _ rfl L H locs cells slots lsC _ hn hx0 hW hS hc1 hc2 hl ⟨rfl, ⟨_, rfl, by rw [i6_add, ex, ey]⟩, hst⟩
theorem g_lmul (hx : p.tables.exec = Jvm.exec) (hb : c.code = cc) (hd : decode cc pc = .ok (.lmul, 1)) (hs : a_step m pc (.lmul) 1 ls st σ = some q) (hK : ∀ pc1 ls1 st1 σ1, q = .inl (pc1, ls1, st1, σ1) → a_Gd p l e R s mi args below meth c Z D tA bs aS L0 n0 mc ms cE sE pc1 ls1 st1 σ1) : a_Gd p l e R s mi args below meth c Z D tA bs aS L0 n0 mc ms cE sE pc ls st σ := by
  simp only [a_step] at hs
  obtain ⟨x, y, st1, est, h9⟩ := pLL_some hs
  subst est
  clear hs
  have hs := h9
  clear h9
  have hs := Option.some.inj hs
  subst hs
  intro L H locs cells slots lsC stC hn hx0 hW hS hc1 hc2 hl hst
  obtain ⟨wy, v1, ev, ey, h9⟩ := st_l hst
  subst ev
  clear hst
  have hst := h9
  clear h9
  obtain ⟨wx, v2, ev, ex, h9⟩ := st_l hst
  subst ev
  clear hst
  have hst := h9
  clear h9
  refine lv_lmul hx hb hd ?_
  exact hK _ _ _ _ rfl L H locs cells slots lsC _ hn hx0 hW hS hc1 hc2 hl ⟨rfl, ⟨_, rfl, by rw [i6_mul, ex, ey]⟩, hst⟩
theorem g_i2l (hx : p.tables.exec = Jvm.exec) (hb : c.code = cc) (hd : decode cc pc = .ok (.i2l, 1)) (hs : a_step m pc (.i2l) 1 ls st σ = some q) (hK : ∀ pc1 ls1 st1 σ1, q = .inl (pc1, ls1, st1, σ1) → a_Gd p l e R s mi args below meth c Z D tA bs aS L0 n0 mc ms cE sE pc1 ls1 st1 σ1) : a_Gd p l e R s mi args below meth c Z D tA bs aS L0 n0 mc ms cE sE pc ls st σ := by
  simp only [a_step] at hs
  obtain ⟨x, st1, est, h9⟩ := pI_some hs
  subst est
  clear hs
  have hs := h9
  clear h9
  have hs := Option.some.inj hs
  subst hs
  intro L H locs cells slots lsC stC hn hx0 hW hS hc1 hc2 hl hst
  obtain ⟨wx, v2, ev, ex, h9⟩ := st_i hst
  subst ev
  clear hst
  have hst := h9
  clear h9
  refine lv_i2l hx hb hd rfl ?_
  exact hK _ _ _ _ rfl L H locs cells slots lsC _ hn hx0 hW hS hc1 hc2 hl ⟨rfl, ⟨_, rfl, by rw [Int32.toInt_toInt64, ex]⟩, hst⟩
theorem g_i2c (hx : p.tables.exec = Jvm.exec) (hb : c.code = cc) (hd : decode cc pc = .ok (.i2c, 1)) (hs : a_step m pc (.i2c) 1 ls st σ = some q) (hK : ∀ pc1 ls1 st1 σ1, q = .inl (pc1, ls1, st1, σ1) → a_Gd p l e R s mi args below meth c Z D tA bs aS L0 n0 mc ms cE sE pc1 ls1 st1 σ1) : a_Gd p l e R s mi args below meth c Z D tA bs aS L0 n0 mc ms cE sE pc ls st σ := by
  simp only [a_step] at hs
  obtain ⟨x, st1, est, h9⟩ := pI_some hs
  subst est
  clear hs
  have hs := h9
  clear h9
  have hs := Option.some.inj hs
  subst hs
  intro L H locs cells slots lsC stC hn hx0 hW hS hc1 hc2 hl hst
  obtain ⟨wx, v2, ev, ex, h9⟩ := st_i hst
  subst ev
  clear hst
  have hst := h9
  clear h9
  refine lv_i2c hx hb hd rfl ?_
  exact hK _ _ _ _ rfl L H locs cells slots lsC _ hn hx0 hW hS hc1 hc2 hl ⟨rfl, ⟨_, rfl, by rw [← ex, zchr, i3_to]⟩, hst⟩
theorem g_i2f (hx : p.tables.exec = Jvm.exec) (hb : c.code = cc) (hd : decode cc pc = .ok (.i2f, 1)) (hs : a_step m pc (.i2f) 1 ls st σ = some q) (hK : ∀ pc1 ls1 st1 σ1, q = .inl (pc1, ls1, st1, σ1) → a_Gd p l e R s mi args below meth c Z D tA bs aS L0 n0 mc ms cE sE pc1 ls1 st1 σ1) : a_Gd p l e R s mi args below meth c Z D tA bs aS L0 n0 mc ms cE sE pc ls st σ := by
  simp only [a_step] at hs
  obtain ⟨x, st1, est, h9⟩ := pI_some hs
  subst est
  clear hs
  have hs := h9
  clear h9
  have hs := Option.some.inj hs
  subst hs
  intro L H locs cells slots lsC stC hn hx0 hW hS hc1 hc2 hl hst
  obtain ⟨wx, v2, ev, ex, h9⟩ := st_i hst
  subst ev
  clear hst
  have hst := h9
  clear h9
  refine lv_i2f hx hb hd ?_
  exact hK _ _ _ _ rfl L H locs cells slots lsC _ hn hx0 hW hS hc1 hc2 hl ⟨rfl, (by rw [← ex, i3_to]; rfl), hst⟩
theorem g_i2d (hx : p.tables.exec = Jvm.exec) (hb : c.code = cc) (hd : decode cc pc = .ok (.i2d, 1)) (hs : a_step m pc (.i2d) 1 ls st σ = some q) (hK : ∀ pc1 ls1 st1 σ1, q = .inl (pc1, ls1, st1, σ1) → a_Gd p l e R s mi args below meth c Z D tA bs aS L0 n0 mc ms cE sE pc1 ls1 st1 σ1) : a_Gd p l e R s mi args below meth c Z D tA bs aS L0 n0 mc ms cE sE pc ls st σ := by
  simp only [a_step] at hs
  obtain ⟨x, st1, est, h9⟩ := pI_some hs
  subst est
  clear hs
  have hs := h9
  clear h9
  have hs := Option.some.inj hs
  subst hs
  intro L H locs cells slots lsC stC hn hx0 hW hS hc1 hc2 hl hst
  obtain ⟨wx, v2, ev, ex, h9⟩ := st_i hst
  subst ev
  clear hst
  have hst := h9
  clear h9
  refine lv_i2d hx hb hd ?_
  exact hK _ _ _ _ rfl L H locs cells slots lsC _ hn hx0 hW hS hc1 hc2 hl ⟨rfl, (by rw [← ex, i3_to]; rfl), hst⟩
theorem g_fdiv (hx : p.tables.exec = Jvm.exec) (hb : c.code = cc) (hd : decode cc pc = .ok (.fdiv, 1)) (hs : a_step m pc (.fdiv) 1 ls st σ = some q) (hK : ∀ pc1 ls1 st1 σ1, q = .inl (pc1, ls1, st1, σ1) → a_Gd p l e R s mi args below meth c Z D tA bs aS L0 n0 mc ms cE sE pc1 ls1 st1 σ1) : a_Gd p l e R s mi args below meth c Z D tA bs aS L0 n0 mc ms cE sE pc ls st σ := by
  simp only [a_step] at hs
  obtain ⟨x, y, st1, est, h9⟩ := pFF_some hs
  subst est
  clear hs
  have hs := h9
  clear h9
  obtain ⟨h0, hs⟩ := a_ite hs
  have hs := Option.some.inj hs
  subst hs
  intro L H locs cells slots lsC stC hn hx0 hW hS hc1 hc2 hl hst
  obtain ⟨v1, ev, h9⟩ := st_f hst
  subst ev
  clear hst
  have hst := h9
  clear h9
  obtain ⟨v2, ev, h9⟩ := st_f hst
  subst ev
  clear hst
  have hst := h9
  clear h9
  refine lv_fdiv hx hb hd h0 ?_
  exact hK _ _ _ _ rfl L H locs cells slots lsC _ hn hx0 hW hS hc1 hc2 hl ⟨rfl, rfl, hst⟩
theorem g_ddiv (hx : p.tables.exec = Jvm.exec) (hb : c.code = cc) (hd : decode cc pc = .ok (.ddiv, 1)) (hs : a_step m pc (.ddiv) 1 ls st σ = some q) (hK : ∀ pc1 ls1 st1 σ1, q = .inl (pc1, ls1, st1, σ1) → a_Gd p l e R s mi args below meth c Z D tA bs aS L0 n0 mc ms cE sE pc1 ls1 st1 σ1) : a_Gd p l e R s mi args below meth c Z D tA bs aS L0 n0 mc ms cE sE pc ls st σ := by
  simp only [a_step] at hs
  obtain ⟨x, y, st1, est, h9⟩ := pDD_some hs
  subst est
  clear hs
  have hs := h9
  clear h9
  obtain ⟨h0, hs⟩ := a_ite hs
  have hs := Option.some.inj hs
  subst hs
  intro L H locs cells slots lsC stC hn hx0 hW hS hc1 hc2 hl hst
  obtain ⟨v1, ev, h9⟩ := st_d hst
  subst ev
  clear hst
  have hst := h9
  clear h9
  obtain ⟨v2, ev, h9⟩ := st_d hst
  subst ev
  clear hst
  have hst := h9
  clear h9
  refine lv_ddiv hx hb hd h0 ?_
  exact hK _ _ _ _ rfl L H locs cells slots lsC _ hn hx0 hW hS hc1 hc2 hl ⟨rfl, rfl, hst⟩
theorem g_f2d (hx : p.tables.exec = Jvm.exec) (hb : c.code = cc) (hd : decode cc pc = .ok (.f2d, 1)) (hs : a_step m pc (.f2d) 1 ls st σ = some q) (hK : ∀ pc1 ls1 st1 σ1, q = .inl (pc1, ls1, st1, σ1) → a_Gd p l e R s mi args below meth c Z D tA bs aS L0 n0 mc ms cE sE pc1 ls1 st1 σ1) : a_Gd p l e R s mi args below meth c Z D tA bs aS L0 n0 mc ms cE sE pc ls st σ := by
  simp only [a_step] at hs
  obtain ⟨x, st1, est, h9⟩ := pF_some hs
  subst est
  clear hs
  have hs := h9
  clear h9
  obtain ⟨h0, hs⟩ := a_ite hs
  have hs := Option.some.inj hs
  subst hs
  intro L H locs cells slots lsC stC hn hx0 hW hS hc1 hc2 hl hst
  obtain ⟨v1, ev, h9⟩ := st_f hst
  subst ev
  clear hst
  have hst := h9
  clear h9
  refine lv_f2d hx hb hd h0 ?_
  exact hK _ _ _ _ rfl L H locs cells slots lsC _ hn hx0 hW hS hc1 hc2 hl ⟨rfl, rfl, hst⟩
theorem i6_cmp (x y : Int64) : (lg_cmp x y).toInt = if x.toInt < y.toInt then -1 else if x.toInt = y.toInt then 0 else 1 := by
  unfold lg_cmp
  simp only [Int64.lt_iff_toInt_lt, ← Int64.toInt_inj, gt_iff_lt]
  split <;> split <;> (try split) <;> (try split) <;> first | rfl | omega
theorem g_lcmp (hx : p.tables.exec = Jvm.exec) (hb : c.code = cc) (hd : decode cc pc = .ok (.lcmp, 1)) (hs : a_step m pc (.lcmp) 1 ls st σ = some q) (hK : ∀ pc1 ls1 st1 σ1, q = .inl (pc1, ls1, st1, σ1) → a_Gd p l e R s mi args below meth c Z D tA bs aS L0 n0 mc ms cE sE pc1 ls1 st1 σ1) : a_Gd p l e R s mi args below meth c Z D tA bs aS L0 n0 mc ms cE sE pc ls st σ := by
  simp only [a_step] at hs
  obtain ⟨x, y, st1, est, h9⟩ := pLL_some hs
  subst est
  clear hs
  have hs := h9
  clear h9
  have hs := Option.some.inj hs
  subst hs
  intro L H locs cells slots lsC stC hn hx0 hW hS hc1 hc2 hl hst
  obtain ⟨wy, v1, ev, ey, h9⟩ := st_l hst
  subst ev
  clear hst
  have hst := h9
  clear h9
  obtain ⟨wx, v2, ev, ex, h9⟩ := st_l hst
  subst ev
  clear hst
  have hst := h9
  clear h9
  refine W.lcmp hx hb hd ?_
  exact hK _ _ _ _ rfl L H locs cells slots lsC _ hn hx0 hW hS hc1 hc2 hl ⟨rfl, ⟨_, rfl, by rw [i6_cmp, ex, ey]⟩, hst⟩
theorem g_fcmp {op : CmpOp} (hx : p.tables.exec = Jvm.exec) (hb : c.code = cc) (hd : decode cc pc = .ok (.fcmp op, 1)) (hs : a_step m pc (.fcmp op) 1 ls st σ = some q) (hK : ∀ pc1 ls1 st1 σ1, q = .inl (pc1, ls1, st1, σ1) → a_Gd p l e R s mi args below meth c Z D tA bs aS L0 n0 mc ms cE sE pc1 ls1 st1 σ1) : a_Gd p l e R s mi args below meth c Z D tA bs aS L0 n0 mc ms cE sE pc ls st σ := by
  simp only [a_step] at hs
  obtain ⟨x, y, st1, est, h9⟩ := pFF_some hs
  subst est
  clear hs
  have hs := h9
  clear h9
  have hs := Option.some.inj hs
  subst hs
  intro L H locs cells slots lsC stC hn hx0 hW hS hc1 hc2 hl hst
  obtain ⟨v1, ev, h9⟩ := st_f hst
  subst ev
  clear hst
  have hst := h9
  clear h9
  obtain ⟨v2, ev, h9⟩ := st_f hst
  subst ev
  clear hst
  have hst := h9
  clear h9
  refine lv_fcmp hx hb hd ?_
  exact hK _ _ _ _ rfl L H locs cells slots lsC _ hn hx0 hW hS hc1 hc2 hl ⟨rfl, ⟨_, rfl, rfl⟩, hst⟩
theorem g_dcmp {op : CmpOp} (hx : p.tables.exec = Jvm.exec) (hb : c.code = cc) (hd : decode cc pc = .ok (.dcmp op, 1)) (hs : a_step m pc (.dcmp op) 1 ls st σ = some q) (hK : ∀ pc1 ls1 st1 σ1, q = .inl (pc1, ls1, st1, σ1) → a_Gd p l e R s mi args below meth c Z D tA bs aS L0 n0 mc ms cE sE pc1 ls1 st1 σ1) : a_Gd p l e R s mi args below meth c Z D tA bs aS L0 n0 mc ms cE sE pc ls st σ := by
  simp only [a_step] at hs
  obtain ⟨x, y, st1, est, h9⟩ := pDD_some hs
  subst est
  clear hs
  have hs := h9
  clear h9
  have hs := Option.some.inj hs
  subst hs
  intro L H locs cells slots lsC stC hn hx0 hW hS hc1 hc2 hl hst
  obtain ⟨v1, ev, h9⟩ := st_d hst
  subst ev
  clear hst
  have hst := h9
  clear h9
  obtain ⟨v2, ev, h9⟩ := st_d hst
  subst ev
  clear hst
  have hst := h9
  clear h9
  refine lv_dcmp hx hb hd ?_
  exact hK _ _ _ _ rfl L H locs cells slots lsC _ hn hx0 hW hS hc1 hc2 hl ⟨rfl, ⟨_, rfl, rfl⟩, hst⟩
theorem a_jmp_ok {pc : Nat} {o : Int} (h : 0 ≤ (pc : Int) + o) : (pc : Int) + o = ((a_jmp pc o : Nat) : Int) := by unfold a_jmp; omega
theorem g_if_eq {o : Int} (hx : p.tables.exec = Jvm.exec) (hb : c.code = cc) (ho : a_okI pc (.ifCond .eq o) 3 = true) (hd : decode cc pc = .ok (.ifCond .eq o, 3)) (hs : a_step m pc (.ifCond .eq o) 3 ls st σ = some q) (hK : ∀ pc1 ls1 st1 σ1, q = .inl (pc1, ls1, st1, σ1) → a_Gd p l e R s mi args below meth c Z D tA bs aS L0 n0 mc ms cE sE pc1 ls1 st1 σ1) : a_Gd p l e R s mi args below meth c Z D tA bs aS L0 n0 mc ms cE sE pc ls st σ := by
  simp only [a_step] at hs
  obtain ⟨x, st1, est, h9⟩ := pI_some hs
  subst est
  clear hs
  have hs := h9
  clear h9
  have hs := Option.some.inj hs
  subst hs
  intro L H locs cells slots lsC stC hn hx0 hW hS hc1 hc2 hl hst
  obtain ⟨wx, v2, ev, ex, h9⟩ := st_i hst
  subst ev
  clear hst
  have hst := h9
  clear h9
  subst ex
  simp only [a_okI, Bool.and_eq_true, decide_eq_true_eq] at ho
  refine lv_if_eq (tgt := a_jmp pc o) hx hb hd (a_jmp_ok ho.2) (fun hc => ?_) (fun hc => ?_)
  · have hb1 : a_cond .eq wx.toInt 0 = true := by
      simp only [Int32.lt_iff_toInt_lt, Int32.le_iff_toInt_le, ← Int32.toInt_inj, Int32.toInt_zero, gt_iff_lt, ge_iff_le, ne_eq] at hc
      simp only [a_cond, decide_eq_true_eq, gt_iff_lt, ge_iff_le, ne_eq]
      first | exact hc | omega
    have hK1 := hK _ _ _ _ rfl
    rw [hb1] at hK1
    exact hK1 L H locs cells slots lsC _ hn hx0 hW hS hc1 hc2 hl hst
  · have hb1 : a_cond .eq wx.toInt 0 = false := by
      simp only [Int32.lt_iff_toInt_lt, Int32.le_iff_toInt_le, ← Int32.toInt_inj, Int32.toInt_zero, gt_iff_lt, ge_iff_le, ne_eq] at hc
      simp only [a_cond, decide_eq_false_iff_not, gt_iff_lt, ge_iff_le, ne_eq]
      first | exact hc | omega
    have hK1 := hK _ _ _ _ rfl
    rw [hb1] at hK1
    exact hK1 L H locs cells slots lsC _ hn hx0 hW hS hc1 hc2 hl hst
theorem g_ic_eq {o : Int} (hx : p.tables.exec = Jvm.exec) (hb : c.code = cc) (ho : a_okI pc (.if_icmp .eq o) 3 = true) (hd : decode cc pc = .ok (.if_icmp .eq o, 3)) (hs : a_step m pc (.if_icmp .eq o) 3 ls st σ = some q) (hK : ∀ pc1 ls1 st1 σ1, q = .inl (pc1, ls1, st1, σ1) → a_Gd p l e R s mi args below meth c Z D tA bs aS L0 n0 mc ms cE sE pc1 ls1 st1 σ1) : a_Gd p l e R s mi args below meth c Z D tA bs aS L0 n0 mc ms cE sE pc ls st σ := by
  simp only [a_step] at hs
  obtain ⟨x, y, st1, est, h9⟩ := pII_some hs
  subst est
  clear hs
  have hs := h9
  clear h9
  have hs := Option.some.inj hs
  subst hs
  intro L H locs cells slots lsC stC hn hx0 hW hS hc1 hc2 hl hst
  obtain ⟨wy, v1, ev, ey, h9⟩ := st_i hst
  subst ev
  clear hst
  have hst := h9
  clear h9
  obtain ⟨wx, v2, ev, ex, h9⟩ := st_i hst
  subst ev
  clear hst
  have hst := h9
  clear h9
  subst ex; subst ey
  simp only [a_okI, Bool.and_eq_true, decide_eq_true_eq] at ho
  refine lv_icmp_eq (tgt := a_jmp pc o) hx hb hd (a_jmp_ok ho.2) (fun hc => ?_) (fun hc => ?_)
  · have hb1 : a_cond .eq wx.toInt wy.toInt = true := by
      simp only [Int32.lt_iff_toInt_lt, Int32.le_iff_toInt_le, ← Int32.toInt_inj, Int32.toInt_zero, gt_iff_lt, ge_iff_le, ne_eq] at hc
      simp only [a_cond, decide_eq_true_eq, gt_iff_lt, ge_iff_le, ne_eq]
      first | exact hc | omega
    have hK1 := hK _ _ _ _ rfl
    rw [hb1] at hK1
    exact hK1 L H locs cells slots lsC _ hn hx0 hW hS hc1 hc2 hl hst
  · have hb1 : a_cond .eq wx.toInt wy.toInt = false := by
      simp only [Int32.lt_iff_toInt_lt, Int32.le_iff_toInt_le, ← Int32.toInt_inj, Int32.toInt_zero, gt_iff_lt, ge_iff_le, ne_eq] at hc
      simp only [a_cond, decide_eq_false_iff_not, gt_iff_lt, ge_iff_le, ne_eq]
      first | exact hc | omega
    have hK1 := hK _ _ _ _ rfl
    rw [hb1] at hK1
    exact hK1 L H locs cells slots lsC _ hn hx0 hW hS hc1 hc2 hl hst
theorem g_if_ne {o : Int} (hx : p.tables.exec = Jvm.exec) (hb : c.code = cc) (ho : a_okI pc (.ifCond .ne o) 3 = true) (hd : decode cc pc = .ok (.ifCond .ne o, 3)) (hs : a_step m pc (.ifCond .ne o) 3 ls st σ = some q) (hK : ∀ pc1 ls1 st1 σ1, q = .inl (pc1, ls1, st1, σ1) → a_Gd p l e R s mi args below meth c Z D tA bs aS L0 n0 mc ms cE sE pc1 ls1 st1 σ1) : a_Gd p l e R s mi args below meth c Z D tA bs aS L0 n0 mc ms cE sE pc ls st σ := by
  simp only [a_step] at hs
  obtain ⟨x, st1, est, h9⟩ := pI_some hs
  subst est
  clear hs
  have hs := h9
  clear h9
  have hs := Option.some.inj hs
  subst hs
  intro L H locs cells slots lsC stC hn hx0 hW hS hc1 hc2 hl hst
  obtain ⟨wx, v2, ev, ex, h9⟩ := st_i hst
  subst ev
  clear hst
  have hst := h9
  clear h9
  subst ex
  simp only [a_okI, Bool.and_eq_true, decide_eq_true_eq] at ho
  refine lv_if_ne (tgt := a_jmp pc o) hx hb hd (a_jmp_ok ho.2) (fun hc => ?_) (fun hc => ?_)
  · have hb1 : a_cond .ne wx.toInt 0 = true := by
      simp only [Int32.lt_iff_toInt_lt, Int32.le_iff_toInt_le, ← Int32.toInt_inj, Int32.toInt_zero, gt_iff_lt, ge_iff_le, ne_eq] at hc
      simp only [a_cond, decide_eq_true_eq, gt_iff_lt, ge_iff_le, ne_eq]
      first | exact hc | omega
    have hK1 := hK _ _ _ _ rfl
    rw [hb1] at hK1
    exact hK1 L H locs cells slots lsC _ hn hx0 hW hS hc1 hc2 hl hst
  · have hb1 : a_cond .ne wx.toInt 0 = false := by
      simp only [Int32.lt_iff_toInt_lt, Int32.le_iff_toInt_le, ← Int32.toInt_inj, Int32.toInt_zero, gt_iff_lt, ge_iff_le, ne_eq] at hc
      simp only [a_cond, decide_eq_false_iff_not, gt_iff_lt, ge_iff_le, ne_eq]
      first | exact hc | omega
    have hK1 := hK _ _ _ _ rfl
    rw [hb1] at hK1
    exact hK1 L H locs cells slots lsC _ hn hx0 hW hS hc1 hc2 hl hst
theorem g_ic_ne {o : Int} (hx : p.tables.exec = Jvm.exec) (hb : c.code = cc) (ho : a_okI pc (.if_icmp .ne o) 3 = true) (hd : decode cc pc = .ok (.if_icmp .ne o, 3)) (hs : a_step m pc (.if_icmp .ne o) 3 ls st σ = some q) (hK : ∀ pc1 ls1 st1 σ1, q = .inl (pc1, ls1, st1, σ1) → a_Gd p l e R s mi args below meth c Z D tA bs aS L0 n0 mc ms cE sE pc1 ls1 st1 σ1) : a_Gd p l e R s mi args below meth c Z D tA bs aS L0 n0 mc ms cE sE pc ls st σ := by
  simp only [a_step] at hs
  obtain ⟨x, y, st1, est, h9⟩ := pII_some hs
  subst est
  clear hs
  have hs := h9
  clear h9
  have hs := Option.some.inj hs
  subst hs
  intro L H locs cells slots lsC stC hn hx0 hW hS hc1 hc2 hl hst
  obtain ⟨wy, v1, ev, ey, h9⟩ := st_i hst
  subst ev
  clear hst
  have hst := h9
  clear h9
  obtain ⟨wx, v2, ev, ex, h9⟩ := st_i hst
  subst ev
  clear hst
  have hst := h9
  clear h9
  subst ex; subst ey
  simp only [a_okI, Bool.and_eq_true, decide_eq_true_eq] at ho
  refine lv_icmp_ne (tgt := a_jmp pc o) hx hb hd (a_jmp_ok ho.2) (fun hc => ?_) (fun hc => ?_)
  · have hb1 : a_cond .ne wx.toInt wy.toInt = true := by
      simp only [Int32.lt_iff_toInt_lt, Int32.le_iff_toInt_le, ← Int32.toInt_inj, Int32.toInt_zero, gt_iff_lt, ge_iff_le, ne_eq] at hc
      simp only [a_cond, decide_eq_true_eq, gt_iff_lt, ge_iff_le, ne_eq]
      first | exact hc | omega
    have hK1 := hK _ _ _ _ rfl
    rw [hb1] at hK1
    exact hK1 L H locs cells slots lsC _ hn hx0 hW hS hc1 hc2 hl hst
  · have hb1 : a_cond .ne wx.toInt wy.toInt = false := by
      simp only [Int32.lt_iff_toInt_lt, Int32.le_iff_toInt_le, ← Int32.toInt_inj, Int32.toInt_zero, gt_iff_lt, ge_iff_le, ne_eq] at hc
      simp only [a_cond, decide_eq_false_iff_not, gt_iff_lt, ge_iff_le, ne_eq]
      first | exact hc | omega
    have hK1 := hK _ _ _ _ rfl
    rw [hb1] at hK1
    exact hK1 L H locs cells slots lsC _ hn hx0 hW hS hc1 hc2 hl hst
theorem g_if_lt {o : Int} (hx : p.tables.exec = Jvm.exec) (hb : c.code = cc) (ho : a_okI pc (.ifCond .lt o) 3 = true) (hd : decode cc pc = .ok (.ifCond .lt o, 3)) (hs : a_step m pc (.ifCond .lt o) 3 ls st σ = some q) (hK : ∀ pc1 ls1 st1 σ1, q = .inl (pc1, ls1, st1, σ1) → a_Gd p l e R s mi args below meth c Z D tA bs aS L0 n0 mc ms cE sE pc1 ls1 st1 σ1) : a_Gd p l e R s mi args below meth c Z D tA bs aS L0 n0 mc ms cE sE pc ls st σ := by
  simp only [a_step] at hs
  obtain ⟨x, st1, est, h9⟩ := pI_some hs
  subst est
  clear hs
  have hs := h9
  clear h9
  have hs := Option.some.inj hs
  subst hs
  intro L H locs cells slots lsC stC hn hx0 hW hS hc1 hc2 hl hst
  obtain ⟨wx, v2, ev, ex, h9⟩ := st_i hst
  subst ev
  clear hst
  have hst := h9
  clear h9
  subst ex
  simp only [a_okI, Bool.and_eq_true, decide_eq_true_eq] at ho
  refine lv_if_lt (tgt := a_jmp pc o) hx hb hd (a_jmp_ok ho.2) (fun hc => ?_) (fun hc => ?_)
  · have hb1 : a_cond .lt wx.toInt 0 = true := by
      simp only [Int32.lt_iff_toInt_lt, Int32.le_iff_toInt_le, ← Int32.toInt_inj, Int32.toInt_zero, gt_iff_lt, ge_iff_le, ne_eq] at hc
      simp only [a_cond, decide_eq_true_eq, gt_iff_lt, ge_iff_le, ne_eq]
      first | exact hc | omega
    have hK1 := hK _ _ _ _ rfl
    rw [hb1] at hK1
    exact hK1 L H locs cells slots lsC _ hn hx0 hW hS hc1 hc2 hl hst
  · have hb1 : a_cond .lt wx.toInt 0 = false := by
      simp only [Int32.lt_iff_toInt_lt, Int32.le_iff_toInt_le, ← Int32.toInt_inj, Int32.toInt_zero, gt_iff_lt, ge_iff_le, ne_eq] at hc
      simp only [a_cond, decide_eq_false_iff_not, gt_iff_lt, ge_iff_le, ne_eq]
      first | exact hc | omega
    have hK1 := hK _ _ _ _ rfl
    rw [hb1] at hK1
    exact hK1 L H locs cells slots lsC _ hn hx0 hW hS hc1 hc2 hl hst
theorem g_ic_lt {o : Int} (hx : p.tables.exec = Jvm.exec) (hb : c.code = cc) (ho : a_okI pc (.if_icmp .lt o) 3 = true) (hd : decode cc pc = .ok (.if_icmp .lt o, 3)) (hs : a_step m pc (.if_icmp .lt o) 3 ls st σ = some q) (hK : ∀ pc1 ls1 st1 σ1, q = .inl (pc1, ls1, st1, σ1) → a_Gd p l e R s mi args below meth c Z D tA bs aS L0 n0 mc ms cE sE pc1 ls1 st1 σ1) : a_Gd p l e R s mi args below meth c Z D tA bs aS L0 n0 mc ms cE sE pc ls st σ := by
  simp only [a_step] at hs
  obtain ⟨x, y, st1, est, h9⟩ := pII_some hs
  subst est
  clear hs
  have hs := h9
  clear h9
  have hs := Option.some.inj hs
  subst hs
  intro L H locs cells slots lsC stC hn hx0 hW hS hc1 hc2 hl hst
  obtain ⟨wy, v1, ev, ey, h9⟩ := st_i hst
  subst ev
  clear hst
  have hst := h9
  clear h9
  obtain ⟨wx, v2, ev, ex, h9⟩ := st_i hst
  subst ev
  clear hst
  have hst := h9
  clear h9
  subst ex; subst ey
  simp only [a_okI, Bool.and_eq_true, decide_eq_true_eq] at ho
  refine lv_icmp_lt (tgt := a_jmp pc o) hx hb hd (a_jmp_ok ho.2) (fun hc => ?_) (fun hc => ?_)
  · have hb1 : a_cond .lt wx.toInt wy.toInt = true := by
      simp only [Int32.lt_iff_toInt_lt, Int32.le_iff_toInt_le, ← Int32.toInt_inj, Int32.toInt_zero, gt_iff_lt, ge_iff_le, ne_eq] at hc
      simp only [a_cond, decide_eq_true_eq, gt_iff_lt, ge_iff_le, ne_eq]
      first | exact hc | omega
    have hK1 := hK _ _ _ _ rfl
    rw [hb1] at hK1
    exact hK1 L H locs cells slots lsC _ hn hx0 hW hS hc1 hc2 hl hst
  · have hb1 : a_cond .lt wx.toInt wy.toInt = false := by
      simp only [Int32.lt_iff_toInt_lt, Int32.le_iff_toInt_le, ← Int32.toInt_inj, Int32.toInt_zero, gt_iff_lt, ge_iff_le, ne_eq] at hc
      simp only [a_cond, decide_eq_false_iff_not, gt_iff_lt, ge_iff_le, ne_eq]
      first | exact hc | omega
    have hK1 := hK _ _ _ _ rfl
    rw [hb1] at hK1
    exact hK1 L H locs cells slots lsC _ hn hx0 hW hS hc1 hc2 hl hst
theorem g_if_ge {o : Int} (hx : p.tables.exec = Jvm.exec) (hb : c.code = cc) (ho : a_okI pc (.ifCond .ge o) 3 = true) (hd : decode cc pc = .ok (.ifCond .ge o, 3)) (hs : a_step m pc (.ifCond .ge o) 3 ls st σ = some q) (hK : ∀ pc1 ls1 st1 σ1, q = .inl (pc1, ls1, st1, σ1) → a_Gd p l e R s mi args below meth c Z D tA bs aS L0 n0 mc ms cE sE pc1 ls1 st1 σ1) : a_Gd p l e R s mi args below meth c Z D tA bs aS L0 n0 mc ms cE sE pc ls st σ := by
  simp only [a_step] at hs
  obtain ⟨x, st1, est, h9⟩ := pI_some hs
  subst est
  clear hs
  have hs := h9
  clear h9
  have hs := Option.some.inj hs
  subst hs
  intro L H locs cells slots lsC stC hn hx0 hW hS hc1 hc2 hl hst
  obtain ⟨wx, v2, ev, ex, h9⟩ := st_i hst
  subst ev
  clear hst
  have hst := h9
  clear h9
  subst ex
  simp only [a_okI, Bool.and_eq_true, decide_eq_true_eq] at ho
  refine lv_if_ge (tgt := a_jmp pc o) hx hb hd (a_jmp_ok ho.2) (fun hc => ?_) (fun hc => ?_)
  · have hb1 : a_cond .ge wx.toInt 0 = true := by
      simp only [Int32.lt_iff_toInt_lt, Int32.le_iff_toInt_le, ← Int32.toInt_inj, Int32.toInt_zero, gt_iff_lt, ge_iff_le, ne_eq] at hc
      simp only [a_cond, decide_eq_true_eq, gt_iff_lt, ge_iff_le, ne_eq]
      first | exact hc | omega
    have hK1 := hK _ _ _ _ rfl
    rw [hb1] at hK1
    exact hK1 L H locs cells slots lsC _ hn hx0 hW hS hc1 hc2 hl hst
  · have hb1 : a_cond .ge wx.toInt 0 = false := by
      simp only [Int32.lt_iff_toInt_lt, Int32.le_iff_toInt_le, ← Int32.toInt_inj, Int32.toInt_zero, gt_iff_lt, ge_iff_le, ne_eq] at hc
      simp only [a_cond, decide_eq_false_iff_not, gt_iff_lt, ge_iff_le, ne_eq]
      first | exact hc | omega
    have hK1 := hK _ _ _ _ rfl
    rw [hb1] at hK1
    exact hK1 L H locs cells slots lsC _ hn hx0 hW hS hc1 hc2 hl hst
theorem g_ic_ge {o : Int} (hx : p.tables.exec = Jvm.exec) (hb : c.code = cc) (ho : a_okI pc (.if_icmp .ge o) 3 = true) (hd : decode cc pc = .ok (.if_icmp .ge o, 3)) (hs : a_step m pc (.if_icmp .ge o) 3 ls st σ = some q) (hK : ∀ pc1 ls1 st1 σ1, q = .inl (pc1, ls1, st1, σ1) → a_Gd p l e R s mi args below meth c Z D tA bs aS L0 n0 mc ms cE sE pc1 ls1 st1 σ1) : a_Gd p l e R s mi args below meth c Z D tA bs aS L0 n0 mc ms cE sE pc ls st σ := by
  simp only [a_step] at hs
  obtain ⟨x, y, st1, est, h9⟩ := pII_some hs
  subst est
  clear hs
  have hs := h9
  clear h9
  have hs := Option.some.inj hs
  subst hs
  intro L H locs cells slots lsC stC hn hx0 hW hS hc1 hc2 hl hst
  obtain ⟨wy, v1, ev, ey, h9⟩ := st_i hst
  subst ev
  clear hst
  have hst := h9
  clear h9
  obtain ⟨wx, v2, ev, ex, h9⟩ := st_i hst
  subst ev
  clear hst
  have hst := h9
  clear h9
  subst ex; subst ey
  simp only [a_okI, Bool.and_eq_true, decide_eq_true_eq] at ho
  refine lv_icmp_ge (tgt := a_jmp pc o) hx hb hd (a_jmp_ok ho.2) (fun hc => ?_) (fun hc => ?_)
  · have hb1 : a_cond .ge wx.toInt wy.toInt = true := by
      simp only [Int32.lt_iff_toInt_lt, Int32.le_iff_toInt_le, ← Int32.toInt_inj, Int32.toInt_zero, gt_iff_lt, ge_iff_le, ne_eq] at hc
      simp only [a_cond, decide_eq_true_eq, gt_iff_lt, ge_iff_le, ne_eq]
      first | exact hc | omega
    have hK1 := hK _ _ _ _ rfl
    rw [hb1] at hK1
    exact hK1 L H locs cells slots lsC _ hn hx0 hW hS hc1 hc2 hl hst
  · have hb1 : a_cond .ge wx.toInt wy.toInt = false := by
      simp only [Int32.lt_iff_toInt_lt, Int32.le_iff_toInt_le, ← Int32.toInt_inj, Int32.toInt_zero, gt_iff_lt, ge_iff_le, ne_eq] at hc
      simp only [a_cond, decide_eq_false_iff_not, gt_iff_lt, ge_iff_le, ne_eq]
      first | exact hc | omega
    have hK1 := hK _ _ _ _ rfl
    rw [hb1] at hK1
    exact hK1 L H locs cells slots lsC _ hn hx0 hW hS hc1 hc2 hl hst
theorem g_if_gt {o : Int} (hx : p.tables.exec = Jvm.exec) (hb : c.code = cc) (ho : a_okI pc (.ifCond .gt o) 3 = true) (hd : decode cc pc = .ok (.ifCond .gt o, 3)) (hs : a_step m pc (.ifCond .gt o) 3 ls st σ = some q) (hK : ∀ pc1 ls1 st1 σ1, q = .inl (pc1, ls1, st1, σ1) → a_Gd p l e R s mi args below meth c Z D tA bs aS L0 n0 mc ms cE sE pc1 ls1 st1 σ1) : a_Gd p l e R s mi args below meth c Z D tA bs aS L0 n0 mc ms cE sE pc ls st σ := by
  simp only [a_step] at hs
  obtain ⟨x, st1, est, h9⟩ := pI_some hs
  subst est
  clear hs
  have hs := h9
  clear h9
  have hs := Option.some.inj hs
  subst hs
  intro L H locs cells slots lsC stC hn hx0 hW hS hc1 hc2 hl hst
  obtain ⟨wx, v2, ev, ex, h9⟩ := st_i hst
  subst ev
  clear hst
  have hst := h9
  clear h9
  subst ex
  simp only [a_okI, Bool.and_eq_true, decide_eq_true_eq] at ho
  refine lv_if_gt (tgt := a_jmp pc o) hx hb hd (a_jmp_ok ho.2) (fun hc => ?_) (fun hc => ?_)
  · have hb1 : a_cond .gt wx.toInt 0 = true := by
      simp only [Int32.lt_iff_toInt_lt, Int32.le_iff_toInt_le, ← Int32.toInt_inj, Int32.toInt_zero, gt_iff_lt, ge_iff_le, ne_eq] at hc
      simp only [a_cond, decide_eq_true_eq, gt_iff_lt, ge_iff_le, ne_eq]
      first | exact hc | omega
    have hK1 := hK _ _ _ _ rfl
    rw [hb1] at hK1
    exact hK1 L H locs cells slots lsC _ hn hx0 hW hS hc1 hc2 hl hst
  · have hb1 : a_cond .gt wx.toInt 0 = false := by
      simp only [Int32.lt_iff_toInt_lt, Int32.le_iff_toInt_le, ← Int32.toInt_inj, Int32.toInt_zero, gt_iff_lt, ge_iff_le, ne_eq] at hc
      simp only [a_cond, decide_eq_false_iff_not, gt_iff_lt, ge_iff_le, ne_eq]
      first | exact hc | omega
    have hK1 := hK _ _ _ _ rfl
    rw [hb1] at hK1
    exact hK1 L H locs cells slots lsC _ hn hx0 hW hS hc1 hc2 hl hst
theorem g_ic_gt {o : Int} (hx : p.tables.exec = Jvm.exec) (hb : c.code = cc) (ho : a_okI pc (.if_icmp .gt o) 3 = true) (hd : decode cc pc = .ok (.if_icmp .gt o, 3)) (hs : a_step m pc (.if_icmp .gt o) 3 ls st σ = some q) (hK : ∀ pc1 ls1 st1 σ1, q = .inl (pc1, ls1, st1, σ1) → a_Gd p l e R s mi args below meth c Z D tA bs aS L0 n0 mc ms cE sE pc1 ls1 st1 σ1) : a_Gd p l e R s mi args below meth c Z D tA bs aS L0 n0 mc ms cE sE pc ls st σ := by
  simp only [a_step] at hs
  obtain ⟨x, y, st1, est, h9⟩ := pII_some hs
  subst est
  clear hs
  have hs := h9
  clear h9
  have hs := Option.some.inj hs
  subst hs
  intro L H locs cells slots lsC stC hn hx0 hW hS hc1 hc2 hl hst
  obtain ⟨wy, v1, ev, ey, h9⟩ := st_i hst
  subst ev
  clear hst
  have hst := h9
  clear h9
  obtain ⟨wx, v2, ev, ex, h9⟩ := st_i hst
  subst ev
  clear hst
  have hst := h9
  clear h9
  subst ex; subst ey
  simp only [a_okI, Bool.and_eq_true, decide_eq_true_eq] at ho
  refine lv_icmp_gt (tgt := a_jmp pc o) hx hb hd (a_jmp_ok ho.2) (fun hc => ?_) (fun hc => ?_)
  · have hb1 : a_cond .gt wx.toInt wy.toInt = true := by
      simp only [Int32.lt_iff_toInt_lt, Int32.le_iff_toInt_le, ← Int32.toInt_inj, Int32.toInt_zero, gt_iff_lt, ge_iff_le, ne_eq] at hc
      simp only [a_cond, decide_eq_true_eq, gt_iff_lt, ge_iff_le, ne_eq]
      first | exact hc | omega
    have hK1 := hK _ _ _ _ rfl
    rw [hb1] at hK1
    exact hK1 L H locs cells slots lsC _ hn hx0 hW hS hc1 hc2 hl hst
  · have hb1 : a_cond .gt wx.toInt wy.toInt = false := by
      simp only [Int32.lt_iff_toInt_lt, Int32.le_iff_toInt_le, ← Int32.toInt_inj, Int32.toInt_zero, gt_iff_lt, ge_iff_le, ne_eq] at hc
      simp only [a_cond, decide_eq_false_iff_not, gt_iff_lt, ge_iff_le, ne_eq]
      first | exact hc | omega
    have hK1 := hK _ _ _ _ rfl
    rw [hb1] at hK1
    exact hK1 L H locs cells slots lsC _ hn hx0 hW hS hc1 hc2 hl hst
theorem g_if_le {o : Int} (hx : p.tables.exec = Jvm.exec) (hb : c.code = cc) (ho : a_okI pc (.ifCond .le o) 3 = true) (hd : decode cc pc = .ok (.ifCond .le o, 3)) (hs : a_step m pc (.ifCond .le o) 3 ls st σ = some q) (hK : ∀ pc1 ls1 st1 σ1, q = .inl (pc1, ls1, st1, σ1) → a_Gd p l e R s mi args below meth c Z D tA bs aS L0 n0 mc ms cE sE pc1 ls1 st1 σ1) : a_Gd p l e R s mi args below meth c Z D tA bs aS L0 n0 mc ms cE sE pc ls st σ := by
  simp only [a_step] at hs
  obtain ⟨x, st1, est, h9⟩ := pI_some hs
  subst est
  clear hs
  have hs := h9
  clear h9
  have hs := Option.some.inj hs
  subst hs
  intro L H locs cells slots lsC stC hn hx0 hW hS hc1 hc2 hl hst
  obtain ⟨wx, v2, ev, ex, h9⟩ := st_i hst
  subst ev
  clear hst
  have hst := h9
  clear h9
  subst ex
  simp only [a_okI, Bool.and_eq_true, decide_eq_true_eq] at ho
  refine lv_if_le (tgt := a_jmp pc o) hx hb hd (a_jmp_ok ho.2) (fun hc => ?_) (fun hc => ?_)
  · have hb1 : a_cond .le wx.toInt 0 = true := by
      simp only [Int32.lt_iff_toInt_lt, Int32.le_iff_toInt_le, ← Int32.toInt_inj, Int32.toInt_zero, gt_iff_lt, ge_iff_le, ne_eq] at hc
      simp only [a_cond, decide_eq_true_eq, gt_iff_lt, ge_iff_le, ne_eq]
      first | exact hc | omega
    have hK1 := hK _ _ _ _ rfl
    rw [hb1] at hK1
    exact hK1 L H locs cells slots lsC _ hn hx0 hW hS hc1 hc2 hl hst
  · have hb1 : a_cond .le wx.toInt 0 = false := by
      simp only [Int32.lt_iff_toInt_lt, Int32.le_iff_toInt_le, ← Int32.toInt_inj, Int32.toInt_zero, gt_iff_lt, ge_iff_le, ne_eq] at hc
      simp only [a_cond, decide_eq_false_iff_not, gt_iff_lt, ge_iff_le, ne_eq]
      first | exact hc | omega
    have hK1 := hK _ _ _ _ rfl
    rw [hb1] at hK1
    exact hK1 L H locs cells slots lsC _ hn hx0 hW hS hc1 hc2 hl hst
theorem g_ic_le {o : Int} (hx : p.tables.exec = Jvm.exec) (hb : c.code = cc) (ho : a_okI pc (.if_icmp .le o) 3 = true) (hd : decode cc pc = .ok (.if_icmp .le o, 3)) (hs : a_step m pc (.if_icmp .le o) 3 ls st σ = some q) (hK : ∀ pc1 ls1 st1 σ1, q = .inl (pc1, ls1, st1, σ1) → a_Gd p l e R s mi args below meth c Z D tA bs aS L0 n0 mc ms cE sE pc1 ls1 st1 σ1) : a_Gd p l e R s mi args below meth c Z D tA bs aS L0 n0 mc ms cE sE pc ls st σ := by
  simp only [a_step] at hs
  obtain ⟨x, y, st1, est, h9⟩ := pII_some hs
  subst est
  clear hs
  have hs := h9
  clear h9
  have hs := Option.some.inj hs
  subst hs
  intro L H locs cells slots lsC stC hn hx0 hW hS hc1 hc2 hl hst
  obtain ⟨wy, v1, ev, ey, h9⟩ := st_i hst
  subst ev
  clear hst
  have hst := h9
  clear h9
  obtain ⟨wx, v2, ev, ex, h9⟩ := st_i hst
  subst ev
  clear hst
  have hst := h9
  clear h9
  subst ex; subst ey
  simp only [a_okI, Bool.and_eq_true, decide_eq_true_eq] at ho
  refine lv_icmp_le (tgt := a_jmp pc o) hx hb hd (a_jmp_ok ho.2) (fun hc => ?_) (fun hc => ?_)
  · have hb1 : a_cond .le wx.toInt wy.toInt = true := by
      simp only [Int32.lt_iff_toInt_lt, Int32.le_iff_toInt_le, ← Int32.toInt_inj, Int32.toInt_zero, gt_iff_lt, ge_iff_le, ne_eq] at hc
      simp only [a_cond, decide_eq_true_eq, gt_iff_lt, ge_iff_le, ne_eq]
      first | exact hc | omega
    have hK1 := hK _ _ _ _ rfl
    rw [hb1] at hK1
    exact hK1 L H locs cells slots lsC _ hn hx0 hW hS hc1 hc2 hl hst
  · have hb1 : a_cond .le wx.toInt wy.toInt = false := by
      simp only [Int32.lt_iff_toInt_lt, Int32.le_iff_toInt_le, ← Int32.toInt_inj, Int32.toInt_zero, gt_iff_lt, ge_iff_le, ne_eq] at hc
      simp only [a_cond, decide_eq_false_iff_not, gt_iff_lt, ge_iff_le, ne_eq]
      first | exact hc | omega
    have hK1 := hK _ _ _ _ rfl
    rw [hb1] at hK1
    exact hK1 L H locs cells slots lsC _ hn hx0 hW hS hc1 hc2 hl hst
theorem g_goto {o : Int} (hx : p.tables.exec = Jvm.exec) (hb : c.code = cc) (ho : a_okI pc (.goto o) 3 = true) (hd : decode cc pc = .ok (.goto o, 3)) (hs : a_step m pc (.goto o) 3 ls st σ = some q) (hK : ∀ pc1 ls1 st1 σ1, q = .inl (pc1, ls1, st1, σ1) → a_Gd p l e R s mi args below meth c Z D tA bs aS L0 n0 mc ms cE sE pc1 ls1 st1 σ1) : a_Gd p l e R s mi args below meth c Z D tA bs aS L0 n0 mc ms cE sE pc ls st σ := by
  simp only [a_step] at hs
  have hs := Option.some.inj hs
  subst hs
  intro L H locs cells slots lsC stC hn hx0 hW hS hc1 hc2 hl hst
  simp only [a_okI, Bool.and_eq_true, decide_eq_true_eq] at ho
  refine lv_goto (tgt := a_jmp pc o) hx hb hd (a_jmp_ok ho.2) ?_
  exact hK _ _ _ _ rfl L H locs cells slots lsC _ hn hx0 hW hS hc1 hc2 hl hst
theorem g_table {d lo hi : Int} {os : Array Int} {len : Nat} (hx : p.tables.exec = Jvm.exec) (hb : c.code = cc) (ho : a_okI pc (.tableswitch d lo hi os) len = true) (hd : decode cc pc = .ok (.tableswitch d lo hi os, len)) (hs : a_step m pc (.tableswitch d lo hi os) len ls st σ = some q) (hK : ∀ pc1 ls1 st1 σ1, q = .inl (pc1, ls1, st1, σ1) → a_Gd p l e R s mi args below meth c Z D tA bs aS L0 n0 mc ms cE sE pc1 ls1 st1 σ1) : a_Gd p l e R s mi args below meth c Z D tA bs aS L0 n0 mc ms cE sE pc ls st σ := by
  simp only [a_step] at hs
  obtain ⟨x, st1, est, h9⟩ := pI_some hs
  subst est
  clear hs
  have hs := h9
  clear h9
  simp only [a_okI, Bool.and_eq_true, decide_eq_true_eq, List.all_eq_true] at ho
  split at hs
  · rename_i h0
    have hs := Option.some.inj hs
    subst hs
    intro L H locs cells slots lsC stC hn hx0 hW hS hc1 hc2 hl hst
    obtain ⟨wx, v2, ev, ex, h9⟩ := st_i hst
    subst ev
    clear hst
    subst ex
    refine lv_tableOut (tgt := a_jmp pc d) hx hb hd h0 (a_jmp_ok ho.2.1) ?_
    exact hK _ _ _ _ rfl L H locs cells slots lsC _ hn hx0 hW hS hc1 hc2 hl h9
  · rename_i h0
    split at hs
    · rename_i o heq
      have hs := Option.some.inj hs
      subst hs
      intro L H locs cells slots lsC stC hn hx0 hW hS hc1 hc2 hl hst
      obtain ⟨wx, v2, ev, ex, h9⟩ := st_i hst
      subst ev
      clear hst
      subst ex
      refine lv_tableIn (tgt := a_jmp pc o) hx hb hd (fun z => h0 (Or.inl z)) (fun z => h0 (Or.inr z)) heq (a_jmp_ok (ho.2.2 o (Array.mem_toList_iff.mpr (Array.mem_of_getElem? heq)))) ?_
      exact hK _ _ _ _ rfl L H locs cells slots lsC _ hn hx0 hW hS hc1 hc2 hl h9
    · cases hs
end SG
