/-! ===== the instructions that read and write the heap ===== -/
theorem k_div {o i : Nat} (h : i < 10000) : (o * 10000 + i) / 10000 = o ∧ (o * 10000 + i) % 10000 = i := by omega
theorem f_ty_ref {t c j : Nat} (h : f_ty t (k_ty c j) = true) : (k_ref c j = true) = (t = 6) := by
  unfold k_ref
  cases hq : k_ty c j <;> rw [hq] at h <;> simp_all [f_ty]
theorem a_rg_i {k : Nat} {z : Int} (h : a_rg k z) (h1 : k ≠ 22) (h2 : k ≠ 23) : (Int32.ofInt z).toInt = z := by
  unfold a_rg at h
  rwa [if_neg h1, if_neg h2] at h
theorem i3_in {w : Int32} {n : Nat} (h0 : 0 ≤ w.toInt) (h1 : w.toInt < (n : Int)) : ¬ (w < 0 ∨ n ≤ w.toNatClampNeg) ∧ w.toNatClampNeg < n := by
  have e : w.toNatClampNeg = w.toInt.toNat := rfl
  refine ⟨fun h => ?_, by omega⟩
  rcases h with h | h
  · rw [Int32.lt_iff_toInt_lt, Int32.toInt_zero] at h
    omega
  · omega
section SH
variable {p : Program} {l : Launch} {e : Env} {R : Room} {s : State} {mi : MethodId} {args : Array Value} {below : List Frame} {meth : Method} {c : Code} {Z : State → Prop} {D : va_G} {tA : Nat → ClassId} {bs : Nat} {aS L0 : Nat → Nat} {n0 mc ms cE sE : Nat} {m pc : Nat} {ls st : List AV} {σ : AS} {q : SR} {cc : ByteArray}
theorem g_getfield {n : Nat} (hx : p.tables.exec = Jvm.exec) (hb : c.code = cc) (hown : s.vm.findClass (o_name (m_own m)) = some mi.cls) (hts : ∀ w ∈ w_all, w.before args s = true) (hn0 : n < 10000) (hd : decode cc pc = .ok (.getfield n, 3)) (hs : a_step m pc (.getfield n) 3 ls st σ = some q) (hK : ∀ pc1 ls1 st1 σ1, q = .inl (pc1, ls1, st1, σ1) → a_Gd p l e R s mi args below meth c Z D tA bs aS L0 n0 mc ms cE sE pc1 ls1 st1 σ1) : a_Gd p l e R s mi args below meth c Z D tA bs aS L0 n0 mc ms cE sE pc ls st σ := by
  simp only [a_step] at hs
  cases hf : c_fld (m_own m) n with
  | none => rw [hf] at hs; cases hs
  | some x =>
    obtain ⟨k1, k, t, fin⟩ := x
    rw [hf] at hs
    have hF := c_fld_ok hf hn0
    simp only [f_ok, (k_div hn0).1, (k_div hn0).2] at hF
    obtain ⟨r, st1, est, h9⟩ := pR_some hs
    subst est
    clear hs
    obtain ⟨h0, hs⟩ := a_ite h9
    have hs := Option.some.inj hs
    subst hs
    intro L H locs cells slots lsC stC hn hx0 hW hS hc1 hc2 hl hst
    obtain ⟨v1, ev, hq, h8⟩ := st_r hst
    subst ev
    obtain ⟨hK0, hA0, hb0, hc0, hj0, hf0, hz0, hn17, hg0, hr0, haS⟩ := id hW
    have hk1 : 1 ≤ k1 := by rcases hF with h | h <;> omega
    have hr00 : r ≠ 0 := fun z => by subst z; omega
    rw [a_null_pos hr00]
    have hcell := hc0 r (by omega)
    unfold a_cell at hcell
    rcases hF with ⟨h1, h2, h3, hw, hfin, hty⟩ | ⟨h25, hF⟩
    · rw [h0, if_pos h2] at hcell
      obtain ⟨hbs, cell, q1, q2, q3, q4⟩ := hcell
      obtain ⟨hS1, hfc, kC, hkC, hkind⟩ := hK0.1 (k1 - 1) _ (k_cl (k1 - 1) (by omega))
      obtain ⟨cf, kf, fi, f, hi, hsl⟩ := hS1 k h3
      refine W.getf hx hb hown (hts _ hw) hi (u_facts hfc hkC (u_lays hts (k_ws (k1 - 1) (by omega)) h3) hi).1 q1 (by rw [q3]; exact fun h => by cases h) (v := a_fv L σ (k1 - 1) r k) (by rw [hsl]; exact q4 k h3) rfl rfl hd ?_
      refine hK _ _ _ _ rfl L H locs cells slots lsC _ hn hx0 hW hS hc1 hc2 hl ?_
      have ht := f_ty_ref hty
      by_cases h6 : t = 6
      · rw [if_pos h6]
        refine ⟨rfl, ⟨hg0 r k, ?_⟩, h8⟩
        unfold a_fv
        rw [if_pos (ht.mpr h6)]
      · rw [if_neg h6]
        refine ⟨rfl, ⟨_, ?_, a_rg_i (hr0 r k) (by omega) (by omega)⟩, h8⟩
        unfold a_fv
        rw [if_neg (fun z => h6 (ht.mp z))]
    · rw [h0, if_neg (by omega), if_neg (by omega), if_pos h25] at hcell
      obtain ⟨-, ⟨cf1, kf1, i1, f1, cell1, a1, a2, a3, a4, a5, a6⟩, ⟨cf2, kf2, i2, f2, cell2, b1, b2, b3, b4, b5, b6⟩, h88, h7⟩ := hcell
      rcases hF with ⟨rfl, rfl, hw⟩ | ⟨rfl, rfl, hw⟩
      · refine W.getf hx hb hown (hts _ hw) b1 b2 b3 b4 b5 rfl rfl hd ?_
        refine hK _ _ _ _ rfl L H locs cells slots lsC _ hn hx0 hW hS hc1 hc2 hl ?_
        rw [if_pos rfl]
        exact ⟨rfl, ⟨hg0 r 0, (a_null_pos h7).symm⟩, h8⟩
      · refine W.getf hx hb hown (hts _ hw) a1 a2 a3 a4 a5 rfl rfl hd ?_
        refine hK _ _ _ _ rfl L H locs cells slots lsC _ hn hx0 hW hS hc1 hc2 hl ?_
        rw [if_neg (by decide), h88]
        exact ⟨rfl, ⟨_, rfl, rfl⟩, h8⟩
/-- a store into a field: the machine's side -/
theorem g_put {n k1 k r : Nat} {fin : Bool} {v : Value} {v1 : List Value} {σ1 : AS} {L : Nat → Nat} {H : Heap} {locs : List Loc} {cells slots : Nat} {lsC : Array Slot} (hx : p.tables.exec = Jvm.exec) (hb : c.code = cc) (hown : s.vm.findClass (o_name (m_own m)) = some mi.cls) (hts : ∀ w ∈ w_all, w.before args s = true) (hin : m_init m = true → meth.name = "<init>") (hd : decode cc pc = .ok (.putfield n, 3))
    (h1 : 1 ≤ k1) (h2 : k1 ≤ 11) (h3 : k < k_size (k1 - 1)) (hw : Jvm.Cond.fieldLink (o_name (m_own m)) n (k_T (k1 - 1) k).1 (k_T (k1 - 1) k).2.1 (k_T (k1 - 1) k).2.2.1 ∈ w_all) (hfin : (k_T (k1 - 1) k).2.2.2 = fin) (hfo : fin = true → o_name (m_own m) = (k_T (k1 - 1) k).1) (hfi : fin = true → m_init m = true) (h0 : (σ.1 r).1 = k1)
    (hW : a_W D tA bs aS L σ s H) (hS : va_S (a_A bs) s.heap H locs) (hnar : narrow (k_ty (k1 - 1) k) v = v) (hfit : fits (k_ty (k1 - 1) k) v = true) (hup : ∀ j, a_fv L σ1 (k1 - 1) r j = updV (fun j => a_fv L σ (k1 - 1) r j) k v j) (hk : σ1.1 = σ.1) (hn : σ1.2.2.2 = σ.2.2.2)
    (hm : ∀ q, q ≠ r → σ1.2.1 q = σ.2.1 q ∧ σ1.2.2.1 q = σ.2.2.1 q) (hg : ∀ j, σ1.2.2.1 r j < σ.2.2.2.1) (hr : ∀ j, a_rg (σ.1 r).1 (σ1.2.1 r j)) (kk : ∀ (H1 : Heap) (locs1 : List Loc), a_W D tA bs aS L σ1 s H1 → va_S (a_A bs) s.heap H1 locs1 → W p l e R s mi args below meth c H1 locs1 cells slots Z (F0 mi (pc + 3) lsC v1)) : W p l e R s mi args below meth c H locs cells slots Z (F0 mi pc lsC (v :: .ref (L r) :: v1)) := by
  obtain ⟨hK0, hA0, hb0, hc0, hj0, hf0, hz0, hn17, hg0, hr0, haS⟩ := id hW
  have hcell := hc0 r (by omega)
  unfold a_cell at hcell
  rw [h0, if_pos h2] at hcell
  obtain ⟨hbs, cell, q1, q2, q3, q4⟩ := hcell
  have hap := va_apart (own := o_name (m_own m)) hts (k_ws (k1 - 1) (by omega)) (k_ty (k1 - 1)) (k_ty_ok (k1 - 1) (by omega)) (k_nm (k1 - 1) (by omega)) hK0 (k_cl (k1 - 1) (by omega))
  obtain ⟨hS1, hfc, kC, hkC, hkind⟩ := hK0.1 (k1 - 1) _ (k_cl (k1 - 1) (by omega))
  obtain ⟨cf, kf, fi, f, hi, hsl⟩ := hS1 k h3
  have hst := (u_facts hfc hkC (u_lays hts (k_ws (k1 - 1) (by omega)) h3) hi).1
  have hlay := hts _ (k_ws (k1 - 1) (by omega) _ (u_in_lay h3))
  have hpd := k_ty_ok (k1 - 1) (by omega) k h3
  have fin1 : ∀ H1 : Heap, H1[L r]? = some (cell.setSlot f.slot v) → H1.size = H.size → (∀ q, q ≠ L r → H1[q]? = H[q]?) → W p l e R s mi args below meth c H1 (locs ++ [⟨L r, f.slot⟩]) cells slots Z (F0 mi (pc + 3) lsC v1) := by
    intro H1 e1 e2 e3
    refine kk H1 _ (hW.put (by omega) ?_ hk hn hm hg hr ?_ e2 e3) (hS.put e2 e3 hbs)
    · simp only [a_wr, Bool.or_eq_true, Bool.and_eq_true, decide_eq_true_eq]
      omega
    · unfold a_cell
      rw [hk, h0, if_pos h2]
      rw [hsl] at e1
      exact ⟨hbs, t_OB.to (V := updV (fun j => a_fv L σ (k1 - 1) r j) k v) ⟨_, e1, q2, q3, t_set q4 hap h3 v⟩ (fun j _ => (hup j).symm)⟩
  unfold u_lay at hlay
  cases hfb : fin with
  | false =>
    rw [if_neg (by rw [hfin, hfb]; decide)] at hlay
    have h6 := u_store hfc hkC hkind hlay hi hpd hnar hfit
    exact W.putK hx hb (f := f) ⟨hown, hts _ hw, ⟨_, _, _, hi⟩, hst⟩ (by rw [q2]; exact h6) q1 q3 (by rw [hsl]; exact k2_hasslot (q4 k h3)) rfl rfl hd fin1
  | true =>
    rw [if_pos (by rw [hfin, hfb])] at hlay
    have hcf : mi.cls = cf := by
      obtain ⟨_, _, c', _, _, _, -, -, hf', -, -, -, hown2, -⟩ := Cond.laysFinal_spec hlay
      have e1 : c' = cf := by have := hi.symm.trans hf'; simp at this; exact this.1.symm
      rw [← hfo hfb] at hown2
      rw [← e1]; exact Option.some.inj (hown.symm.trans hown2)
    have h6 := u_fits hfc hkC hkind (Or.inr hlay) hi hpd hnar hfit
    exact W.putFinK hx hb hown (hts _ hw) hi hst hcf (hin (hfi hfb)) (by rw [q2]; exact h6) q1 q3 (by rw [hsl]; exact k2_hasslot (q4 k h3)) rfl rfl hd fin1
theorem a_null_nar {L : Nat → Nat} {z : Nat} {t : FieldType} (h : f_ty 6 t = true) : narrow t (a_null L z) = a_null L z ∧ fits t (a_null L z) = true := by
  unfold a_null
  cases t <;> simp [f_ty] at h <;> split <;> exact ⟨rfl, rfl⟩
theorem a_int_nar {t1 : Nat} {w : Int32} {t : FieldType} (h : f_ty t1 t = true) (h6 : t1 ≠ 6) (hz : a_fit t1 w.toInt = true) : narrow t (.int w) = .int w ∧ fits t (.int w) = true := by
  cases t <;> simp [f_ty] at h
  · subst h
    exact ⟨rfl, rfl⟩
  · subst h
    simp only [a_fit, Bool.or_eq_true, decide_eq_true_eq] at hz
    rcases hz with hz | hz
    · have e : w = 0 := Int32.toInt_inj.mp hz
      subst e
      exact ⟨by decide, rfl⟩
    · have e : w = 1 := Int32.toInt_inj.mp hz
      subst e
      exact ⟨by decide, rfl⟩
  all_goals omega
theorem g_putfield {n : Nat} (hx : p.tables.exec = Jvm.exec) (hb : c.code = cc) (hown : s.vm.findClass (o_name (m_own m)) = some mi.cls) (hts : ∀ w ∈ w_all, w.before args s = true) (hin : m_init m = true → meth.name = "<init>") (hn0 : n < 10000) (hpo : ∀ (c1 k t : Nat) (fin : Bool), c_fld (m_own m) n = some (c1, k, t, fin) → fin = true → o_name (m_own m) = (k_T (c1 - 1) k).1) (hd : decode cc pc = .ok (.putfield n, 3)) (hs : a_step m pc (.putfield n) 3 ls st σ = some q) (hK : ∀ pc1 ls1 st1 σ1, q = .inl (pc1, ls1, st1, σ1) → a_Gd p l e R s mi args below meth c Z D tA bs aS L0 n0 mc ms cE sE pc1 ls1 st1 σ1) : a_Gd p l e R s mi args below meth c Z D tA bs aS L0 n0 mc ms cE sE pc ls st σ := by
  simp only [a_step] at hs
  cases hf : c_fld (m_own m) n with
  | none => rw [hf] at hs; cases hs
  | some x =>
    obtain ⟨k1, k, t, fin⟩ := x
    rw [hf] at hs
    have hF := c_fld_ok hf hn0
    simp only [f_ok, (k_div hn0).1, (k_div hn0).2] at hF
    obtain ⟨hfi, hs⟩ := a_ite hs
    by_cases h6 : t = 6
    · rw [if_pos h6] at hs
      split at hs
      · rename_i v r st1 _
        obtain ⟨⟨h0, hlt⟩, hs⟩ := a_ite hs
        have hs := Option.some.inj hs
        subst hs
        rcases hF with ⟨h1, h2, h3, hw, hfin, hty⟩ | ⟨h25, hF⟩
        · intro L H locs cells slots lsC stC hn hx0 hW hS hc1 hc2 hl hst
          obtain ⟨v1, ev, hq, h9⟩ := st_r hst
          subst ev
          obtain ⟨v2, ev, hq2, h8⟩ := st_r h9
          subst ev
          obtain ⟨hK0, hA0, hb0, hc0, hj0, hf0, hz0, hn17, hg0, hr0, haS⟩ := id hW
          have hr00 : r ≠ 0 := fun z => by subst z; omega
          rw [a_null_pos hr00]
          have ht := f_ty_ref hty
          rw [h6] at hty
          refine g_put (σ1 := a_setr σ r k v) hx hb hown hts hin hd h1 h2 h3 hw hfin (hpo _ _ _ _ hf) hfi h0 hW hS (a_null_nar hty).1 (a_null_nar hty).2 (fun j => ?_) rfl rfl (fun q hq => ⟨rfl, by funext j; simp [a_setr, upm, hq]⟩) (fun j => ?_) (hr0 r) (fun H1 locs1 hW1 hS1 => hK _ _ _ _ rfl L H1 locs1 cells slots lsC _ hn hx0 hW1 hS1 hc1 hc2 hl h8)
          · unfold a_fv updV
            by_cases hj : j = k
            · subst hj
              rw [if_pos (ht.mpr h6), if_pos rfl]
              simp [a_setr, upm]
            · rw [if_neg hj]
              simp [a_setr, upm, hj]
          · show upm σ.2.2.1 r k v r j < _
            unfold upm
            split
            · exact hq
            · exact hg0 r j
        · omega
      · cases hs
    · rw [if_neg h6] at hs
      split at hs
      · rename_i z r st1 _
        obtain ⟨⟨h0, hlt, hz⟩, hs⟩ := a_ite hs
        have hs := Option.some.inj hs
        subst hs
        rcases hF with ⟨h1, h2, h3, hw, hfin, hty⟩ | ⟨h25, hF⟩
        · intro L H locs cells slots lsC stC hn hx0 hW hS hc1 hc2 hl hst
          obtain ⟨w, v1, ev, ew, h9⟩ := st_i hst
          subst ev
          subst ew
          obtain ⟨v2, ev, hq2, h8⟩ := st_r h9
          subst ev
          obtain ⟨hK0, hA0, hb0, hc0, hj0, hf0, hz0, hn17, hg0, hr0, haS⟩ := id hW
          have hr00 : r ≠ 0 := fun z => by subst z; omega
          rw [a_null_pos hr00]
          have ht := f_ty_ref hty
          refine g_put (σ1 := a_set σ r k w.toInt) hx hb hown hts hin hd h1 h2 h3 hw hfin (hpo _ _ _ _ hf) hfi h0 hW hS (a_int_nar hty h6 hz).1 (a_int_nar hty h6 hz).2 (fun j => ?_) rfl rfl (fun q hq => ⟨by funext j; simp [a_set, upm, hq], rfl⟩) (hg0 r) (fun j => ?_) (fun H1 locs1 hW1 hS1 => hK _ _ _ _ rfl L H1 locs1 cells slots lsC _ hn hx0 hW1 hS1 hc1 hc2 hl h8)
          · unfold a_fv updV
            by_cases hj : j = k
            · subst hj
              rw [if_neg (fun z => h6 (ht.mp z)), if_pos rfl]
              simp [a_set, upm, i3_to]
            · rw [if_neg hj]
              simp [a_set, upm, hj]
          · show a_rg _ (upm σ.2.1 r k w.toInt r j)
            unfold upm
            split
            · unfold a_rg
              rw [if_neg (by omega), if_neg (by omega), i3_to]
            · exact hr0 r j
        · omega
      · cases hs
/-- the cell of an array -/
theorem a_arrc {L : Nat → Nat} {H : Heap} {r : Nat} (hW : a_W D tA bs aS L σ s H) (h : a_arr (σ.1 r).1 = true) : r ≠ 0 ∧ bs ≤ L r ∧ (σ.1 r).2 < 2147483648 ∧ H[L r]? = some (arrV (tA (σ.1 r).1) (σ.1 r).2 (fun j => a_ev L σ (σ.1 r).1 r j)) ∧ ArrOfT s (tA (σ.1 r).1) (a_elem (σ.1 r).1) ∧ va_RA s (tA (σ.1 r).1) (a_elem (σ.1 r).1) ∧ a_wr (σ.1 r).1 = true := by
  obtain ⟨hK0, hA0, hb0, hc0, hj0, hf0, hz0, hn17, hg0, hr0, haS⟩ := id hW
  have h1 := h
  simp only [a_arr, Bool.or_eq_true, decide_eq_true_eq] at h1
  have hcell := hc0 r (by omega)
  unfold a_cell at hcell
  rw [if_neg (by omega), if_neg (by omega), if_neg (by omega), if_neg (by omega)] at hcell
  refine ⟨fun z => by subst z; omega, hcell.2.1, hcell.2.2.1, hcell.2.2.2, (hA0 _ h).1, (hA0 _ h).2, ?_⟩
  simp only [a_wr, Bool.or_eq_true, Bool.and_eq_true, decide_eq_true_eq]
  omega
theorem a_inb {σ : AS} {r : Nat} {i : Int} (h : a_in σ r i = true) : 0 ≤ i ∧ i < ((σ.1 r).2 : Int) := by
  simpa [a_in] using h
theorem g_alen (hx : p.tables.exec = Jvm.exec) (hb : c.code = cc) (hd : decode cc pc = .ok (.arraylength, 1)) (hs : a_step m pc (.arraylength) 1 ls st σ = some q) (hK : ∀ pc1 ls1 st1 σ1, q = .inl (pc1, ls1, st1, σ1) → a_Gd p l e R s mi args below meth c Z D tA bs aS L0 n0 mc ms cE sE pc1 ls1 st1 σ1) : a_Gd p l e R s mi args below meth c Z D tA bs aS L0 n0 mc ms cE sE pc ls st σ := by
  simp only [a_step] at hs
  obtain ⟨r, st1, est, h9⟩ := pR_some hs
  subst est
  clear hs
  obtain ⟨h0, hs⟩ := a_ite h9
  have hs := Option.some.inj hs
  subst hs
  intro L H locs cells slots lsC stC hn hx0 hW hS hc1 hc2 hl hst
  obtain ⟨v1, ev, hq, h8⟩ := st_r hst
  subst ev
  obtain ⟨hK0, hA0, hb0, hc0, hj0, hf0, hz0, hn17, hg0, hr0, haS⟩ := id hW
  have hr00 : r ≠ 0 := fun z => by subst z; omega
  rw [a_null_pos hr00]
  have hcell := hc0 r (by omega)
  have fin : ∀ (cell : Cell) (ty : FieldType), H[L r]? = some cell → s.isArrayOf cell ty → cell.slots.size = (σ.1 r).2 → (σ.1 r).2 < 2147483648 → W p l e R s mi args below meth c H locs cells slots Z (F0 mi pc lsC (.ref (L r) :: v1)) := by
    intro cell ty e1 e2 e3 e4
    refine W.alen hx hb e1 e2 (n := Int32.ofInt ((σ.1 r).2 : Int)) (by rw [e3, Int32.ofInt_eq_ofNat]) rfl rfl hd ?_
    exact hK _ _ _ _ rfl L H locs cells slots lsC _ hn hx0 hW hS hc1 hc2 hl ⟨rfl, ⟨_, rfl, i3_of (by omega) (by omega)⟩, h8⟩
  by_cases ha : a_arr (σ.1 r).1 = true
  · obtain ⟨-, b1, b2, b3, b4, b5, b6⟩ := a_arrc hW ha
    exact fin _ _ b3 (b4 _ _) (arrV_size _ _ _) b2
  · unfold a_cell at hcell
    rw [if_neg (by omega)] at hcell
    split at hcell
    · obtain ⟨-, a1, scr, a2, a3, a4, a5, -⟩ := hcell
      exact fin _ _ a2 a3 a5 a1
    · rw [if_neg (by omega)] at hcell
      split at hcell
      · obtain ⟨a0, cell, a1, a2, a3, a4, a5, a6, a7⟩ := hcell
        refine W.alen hx hb a1 a2 (n := Int32.ofInt ((σ.1 r).2 : Int)) (by rw [a5, Int32.ofInt_eq_ofNat]) rfl rfl hd ?_
        exact hK _ _ _ _ rfl L H locs cells slots lsC _ hn hx0 hW hS hc1 hc2 hl ⟨rfl, ⟨_, rfl, i3_of (by omega) (by omega)⟩, h8⟩
      · exact absurd hcell.1 ha
theorem g_iaload (hx : p.tables.exec = Jvm.exec) (hb : c.code = cc) (hd : decode cc pc = .ok (.iaload, 1)) (hs : a_step m pc (.iaload) 1 ls st σ = some q) (hK : ∀ pc1 ls1 st1 σ1, q = .inl (pc1, ls1, st1, σ1) → a_Gd p l e R s mi args below meth c Z D tA bs aS L0 n0 mc ms cE sE pc1 ls1 st1 σ1) : a_Gd p l e R s mi args below meth c Z D tA bs aS L0 n0 mc ms cE sE pc ls st σ := by
  simp only [a_step] at hs
  obtain ⟨r, i, st1, est, h9⟩ := pIR_some hs
  subst est
  clear hs
  obtain ⟨⟨h0, hib⟩, hs⟩ := a_ite h9
  have hs := Option.some.inj hs
  subst hs
  have hin := a_inb hib
  intro L H locs cells slots lsC stC hn hx0 hW hS hc1 hc2 hl hst
  obtain ⟨w, v1, ev, ew, h8⟩ := st_i hst
  subst ev
  subst ew
  obtain ⟨v2, ev, hq2, h7⟩ := st_r h8
  subst ev
  obtain ⟨hK0, hA0, hb0, hc0, hj0, hf0, hz0, hn17, hg0, hr0, haS⟩ := id hW
  obtain ⟨hb1, hb2⟩ := i3_in hin.1 hin.2
  have ew : w.toNatClampNeg = w.toInt.toNat := rfl
  rcases h0 with h0 | h0
  · have ha : a_arr (σ.1 r).1 = true := by rw [h0]; rfl
    obtain ⟨b0, b1, b2, b3, b4, b5, b6⟩ := a_arrc hW ha
    rw [a_null_pos b0]
    rw [h0] at b3 b4
    refine W.iald hx hb b3 (b4 _ _) (fun h => by cases h) (by rw [arrV_size]; exact hb1) (v := .int (Int32.ofInt (σ.2.1 r w.toInt.toNat))) (by rw [arrV_read _ _ hb2, ew]; rfl) rfl rfl hd ?_
    exact hK _ _ _ _ rfl L H locs cells slots lsC _ hn hx0 hW hS hc1 hc2 hl ⟨rfl, ⟨_, rfl, a_rg_i (hr0 r _) (by omega) (by omega)⟩, h7⟩
  · have hr00 : r ≠ 0 := fun z => by subst z; omega
    rw [a_null_pos hr00]
    have hcell := hc0 r (by omega)
    unfold a_cell at hcell
    rw [if_neg (by omega), if_pos h0] at hcell
    obtain ⟨-, a1, scr, a2, a3, a4, a5, a6⟩ := hcell
    refine W.iald hx hb a2 a3 a4 (by rw [a5]; exact hb1) (v := .int (Int32.ofInt (σ.2.1 r w.toInt.toNat))) (by rw [a6 _ hb2]; rfl) rfl rfl hd ?_
    exact hK _ _ _ _ rfl L H locs cells slots lsC _ hn hx0 hW hS hc1 hc2 hl ⟨rfl, ⟨_, rfl, a_rg_i (hr0 r _) (by omega) (by omega)⟩, h7⟩
theorem g_baload (hx : p.tables.exec = Jvm.exec) (hb : c.code = cc) (hd : decode cc pc = .ok (.baload, 1)) (hs : a_step m pc (.baload) 1 ls st σ = some q) (hK : ∀ pc1 ls1 st1 σ1, q = .inl (pc1, ls1, st1, σ1) → a_Gd p l e R s mi args below meth c Z D tA bs aS L0 n0 mc ms cE sE pc1 ls1 st1 σ1) : a_Gd p l e R s mi args below meth c Z D tA bs aS L0 n0 mc ms cE sE pc ls st σ := by
  simp only [a_step] at hs
  obtain ⟨r, i, st1, est, h9⟩ := pIR_some hs
  subst est
  clear hs
  obtain ⟨⟨h0, hib⟩, hs⟩ := a_ite h9
  have hs := Option.some.inj hs
  subst hs
  have hin := a_inb hib
  intro L H locs cells slots lsC stC hn hx0 hW hS hc1 hc2 hl hst
  obtain ⟨w, v1, ev, ew, h8⟩ := st_i hst
  subst ev
  subst ew
  obtain ⟨v2, ev, hq2, h7⟩ := st_r h8
  subst ev
  obtain ⟨hK0, hA0, hb0, hc0, hj0, hf0, hz0, hn17, hg0, hr0, haS⟩ := id hW
  obtain ⟨hb1, hb2⟩ := i3_in hin.1 hin.2
  have ew : w.toNatClampNeg = w.toInt.toNat := rfl
  rcases h0 with h0 | h0
  · have ha : a_arr (σ.1 r).1 = true := by rw [h0]; rfl
    obtain ⟨b0, b1, b2, b3, b4, b5, b6⟩ := a_arrc hW ha
    rw [a_null_pos b0]
    rw [h0] at b3 b4
    refine W.zald hx hb b3 (b4 _ _) (fun h => by cases h) (by rw [arrV_size]; exact hb1) (v := .int (Int32.ofInt (σ.2.1 r w.toInt.toNat))) (by rw [arrV_read _ _ hb2, ew]; rfl) rfl rfl hd ?_
    exact hK _ _ _ _ rfl L H locs cells slots lsC _ hn hx0 hW hS hc1 hc2 hl ⟨rfl, ⟨_, rfl, a_rg_i (hr0 r _) (by omega) (by omega)⟩, h7⟩
  · have hr00 : r ≠ 0 := fun z => by subst z; omega
    rw [a_null_pos hr00]
    have hcell := hc0 r (by omega)
    unfold a_cell at hcell
    rw [if_neg (by omega), if_neg (by omega), if_neg (by omega), if_pos h0] at hcell
    obtain ⟨a0, cell, a1, a2, a3, a4, a5, a6, a7⟩ := hcell
    have hz : ¬ (w < 0 ∨ cell.slots.size ≤ w.toNatClampNeg) := fun z => hb1 (z.imp id (fun z => by omega))
    refine W.bald hx hb a1 a2 a3 hz (v := .int (Int32.ofInt (σ.2.1 r w.toInt.toNat))) (by rw [a6 _ hb2]; rfl) rfl rfl hd ?_
    exact hK _ _ _ _ rfl L H locs cells slots lsC _ hn hx0 hW hS hc1 hc2 hl ⟨rfl, ⟨_, rfl, a_rg_i (hr0 r _) (by omega) (by omega)⟩, h7⟩
theorem g_laload (hx : p.tables.exec = Jvm.exec) (hb : c.code = cc) (hd : decode cc pc = .ok (.laload, 1)) (hs : a_step m pc (.laload) 1 ls st σ = some q) (hK : ∀ pc1 ls1 st1 σ1, q = .inl (pc1, ls1, st1, σ1) → a_Gd p l e R s mi args below meth c Z D tA bs aS L0 n0 mc ms cE sE pc1 ls1 st1 σ1) : a_Gd p l e R s mi args below meth c Z D tA bs aS L0 n0 mc ms cE sE pc ls st σ := by
  simp only [a_step] at hs
  obtain ⟨r, i, st1, est, h9⟩ := pIR_some hs
  subst est
  clear hs
  obtain ⟨⟨h0, hib⟩, hs⟩ := a_ite h9
  have hs := Option.some.inj hs
  subst hs
  have hin := a_inb hib
  intro L H locs cells slots lsC stC hn hx0 hW hS hc1 hc2 hl hst
  obtain ⟨w, v1, ev, ew, h8⟩ := st_i hst
  subst ev
  subst ew
  obtain ⟨v2, ev, hq2, h7⟩ := st_r h8
  subst ev
  obtain ⟨hK0, hA0, hb0, hc0, hj0, hf0, hz0, hn17, hg0, hr0, haS⟩ := id hW
  obtain ⟨hb1, hb2⟩ := i3_in hin.1 hin.2
  have ew : w.toNatClampNeg = w.toInt.toNat := rfl
  have ha : a_arr (σ.1 r).1 = true := by rw [h0]; rfl
  obtain ⟨b0, b1, b2, b3, b4, b5, b6⟩ := a_arrc hW ha
  rw [a_null_pos b0]
  rw [h0] at b3 b4
  refine W.lald hx hb b3 (b4 _ _) (fun h => by cases h) (by rw [arrV_size]; exact hb1) (v := .long (Int64.ofInt (σ.2.1 r w.toInt.toNat))) (by rw [arrV_read _ _ hb2, ew]; rfl) rfl rfl hd ?_
  exact hK _ _ _ _ rfl L H locs cells slots lsC _ hn hx0 hW hS hc1 hc2 hl ⟨rfl, ⟨_, rfl, by have h6 := hr0 r w.toInt.toNat; unfold a_rg at h6; rwa [if_pos h0] at h6⟩, h7⟩
theorem g_daload (hx : p.tables.exec = Jvm.exec) (hb : c.code = cc) (hd : decode cc pc = .ok (.daload, 1)) (hs : a_step m pc (.daload) 1 ls st σ = some q) (hK : ∀ pc1 ls1 st1 σ1, q = .inl (pc1, ls1, st1, σ1) → a_Gd p l e R s mi args below meth c Z D tA bs aS L0 n0 mc ms cE sE pc1 ls1 st1 σ1) : a_Gd p l e R s mi args below meth c Z D tA bs aS L0 n0 mc ms cE sE pc ls st σ := by
  simp only [a_step] at hs
  obtain ⟨r, i, st1, est, h9⟩ := pIR_some hs
  subst est
  clear hs
  obtain ⟨⟨h0, hib⟩, hs⟩ := a_ite h9
  have hs := Option.some.inj hs
  subst hs
  have hin := a_inb hib
  intro L H locs cells slots lsC stC hn hx0 hW hS hc1 hc2 hl hst
  obtain ⟨w, v1, ev, ew, h8⟩ := st_i hst
  subst ev
  subst ew
  obtain ⟨v2, ev, hq2, h7⟩ := st_r h8
  subst ev
  obtain ⟨hK0, hA0, hb0, hc0, hj0, hf0, hz0, hn17, hg0, hr0, haS⟩ := id hW
  obtain ⟨hb1, hb2⟩ := i3_in hin.1 hin.2
  have ew : w.toNatClampNeg = w.toInt.toNat := rfl
  have ha : a_arr (σ.1 r).1 = true := by rw [h0]; rfl
  obtain ⟨b0, b1, b2, b3, b4, b5, b6⟩ := a_arrc hW ha
  rw [a_null_pos b0]
  rw [h0] at b3 b4
  refine W.dald hx hb b3 (b4 _ _) (fun h => by cases h) (by rw [arrV_size]; exact hb1) (v := .double (UInt64.ofNat (σ.2.1 r w.toInt.toNat).toNat)) (by rw [arrV_read _ _ hb2, ew]; rfl) rfl rfl hd ?_
  exact hK _ _ _ _ rfl L H locs cells slots lsC _ hn hx0 hW hS hc1 hc2 hl ⟨rfl, rfl, h7⟩
theorem g_aaload (hx : p.tables.exec = Jvm.exec) (hb : c.code = cc) (hd : decode cc pc = .ok (.aaload, 1)) (hs : a_step m pc (.aaload) 1 ls st σ = some q) (hK : ∀ pc1 ls1 st1 σ1, q = .inl (pc1, ls1, st1, σ1) → a_Gd p l e R s mi args below meth c Z D tA bs aS L0 n0 mc ms cE sE pc1 ls1 st1 σ1) : a_Gd p l e R s mi args below meth c Z D tA bs aS L0 n0 mc ms cE sE pc ls st σ := by
  simp only [a_step] at hs
  obtain ⟨r, i, st1, est, h9⟩ := pIR_some hs
  subst est
  clear hs
  obtain ⟨⟨h0, hib⟩, hs⟩ := a_ite h9
  have hs := Option.some.inj hs
  subst hs
  have hin := a_inb hib
  intro L H locs cells slots lsC stC hn hx0 hW hS hc1 hc2 hl hst
  obtain ⟨w, v1, ev, ew, h8⟩ := st_i hst
  subst ev
  subst ew
  obtain ⟨v2, ev, hq2, h7⟩ := st_r h8
  subst ev
  obtain ⟨hK0, hA0, hb0, hc0, hj0, hf0, hz0, hn17, hg0, hr0, haS⟩ := id hW
  obtain ⟨hb1, hb2⟩ := i3_in hin.1 hin.2
  have ew : w.toNatClampNeg = w.toInt.toNat := rfl
  have hcell := hc0 r (by omega)
  have ha : a_arr (σ.1 r).1 = true := by
    unfold a_cell at hcell
    rw [if_neg (by omega), if_neg (by omega), if_neg (by omega), if_neg (by omega)] at hcell
    exact hcell.1
  obtain ⟨b0, b1, b2, b3, b4, b5, b6⟩ := a_arrc hW ha
  rw [a_null_pos b0]
  have he : a_elem (σ.1 r).1 = .object (k_name ((σ.1 r).1 - 30)) := by
    unfold a_elem
    rw [if_neg (by omega), if_neg (by omega), if_neg (by omega), if_neg (by omega)]
  rw [he] at b4
  refine W.aald hx hb b3 (b4 _ _) rfl (fun h => by cases h) (by rw [arrV_size]; exact hb1) (v := a_null L (σ.2.2.1 r w.toInt.toNat)) (by rw [arrV_read _ _ hb2, ew]; unfold a_ev; rw [if_pos h0]) rfl rfl hd ?_
  exact hK _ _ _ _ rfl L H locs cells slots lsC _ hn hx0 hW hS hc1 hc2 hl ⟨rfl, ⟨hg0 r _, rfl⟩, h7⟩
theorem g_astr {r i : Nat} {v : Value} {σ1 : AS} {L : Nat → Nat} {H H1 : Heap} {locs : List Loc} (hW : a_W D tA bs aS L σ s H) (hS : va_S (a_A bs) s.heap H locs) (ha : a_arr (σ.1 r).1 = true) (hup : ∀ j, a_ev L σ1 (σ.1 r).1 r j = updV (fun j => a_ev L σ (σ.1 r).1 r j) i v j) (hk : σ1.1 = σ.1) (hn : σ1.2.2.2 = σ.2.2.2)
    (hm : ∀ q, q ≠ r → σ1.2.1 q = σ.2.1 q ∧ σ1.2.2.1 q = σ.2.2.1 q) (hg : ∀ j, σ1.2.2.1 r j < σ.2.2.2.1) (hr : ∀ j, a_rg (σ.1 r).1 (σ1.2.1 r j)) (e1 : H1[L r]? = some ((arrV (tA (σ.1 r).1) (σ.1 r).2 (fun j => a_ev L σ (σ.1 r).1 r j)).setSlot i v)) (e2 : H1.size = H.size) (e3 : ∀ q, q ≠ L r → H1[q]? = H[q]?) : a_W D tA bs aS L σ1 s H1 ∧ va_S (a_A bs) s.heap H1 (locs ++ [⟨L r, i⟩]) := by
  obtain ⟨b0, b1, b2, b3, b4, b5, b6⟩ := a_arrc hW ha
  have h1 := ha
  simp only [a_arr, Bool.or_eq_true, decide_eq_true_eq] at h1
  refine ⟨hW.put (by omega) b6 hk hn hm hg hr ?_ e2 e3, hS.put e2 e3 b1⟩
  unfold a_cell
  rw [hk, if_neg (by omega), if_neg (by omega), if_neg (by omega), if_neg (by omega)]
  refine ⟨ha, b1, b2, ?_⟩
  rw [e1, arrV_store]
  congr 2
  funext j
  exact (hup j).symm
theorem g_iastore (hx : p.tables.exec = Jvm.exec) (hb : c.code = cc) (hd : decode cc pc = .ok (.iastore, 1)) (hs : a_step m pc (.iastore) 1 ls st σ = some q) (hK : ∀ pc1 ls1 st1 σ1, q = .inl (pc1, ls1, st1, σ1) → a_Gd p l e R s mi args below meth c Z D tA bs aS L0 n0 mc ms cE sE pc1 ls1 st1 σ1) : a_Gd p l e R s mi args below meth c Z D tA bs aS L0 n0 mc ms cE sE pc ls st σ := by
  simp only [a_step] at hs
  obtain ⟨r, i, v0, st1, est, h9⟩ := pVIR_some hs
  subst est
  clear hs
  obtain ⟨z, st0, est, h9⟩ := pI_some h9
  obtain ⟨rfl, rfl⟩ := List.cons.inj est
  obtain ⟨h0, hs⟩ := a_ite h9
  have hs := Option.some.inj hs
  subst hs
  intro L H locs cells slots lsC stC hn hx0 hW hS hc1 hc2 hl hst
  obtain ⟨x, v1, ev, ex, h8⟩ := st_i hst
  subst ev
  subst ex
  obtain ⟨h0, hib⟩ := h0
  obtain ⟨w, v2, ev, ew, h7⟩ := st_i h8
  subst ev
  subst ew
  obtain ⟨v3, ev, hq2, h6⟩ := st_r h7
  subst ev
  obtain ⟨hK0, hA0, hb0, hc0, hj0, hf0, hz0, hn17, hg0, hr0, haS⟩ := id hW

  have hin := a_inb hib
  obtain ⟨hb1, hb2⟩ := i3_in hin.1 hin.2
  have ew : w.toNatClampNeg = w.toInt.toNat := rfl
  have ha : a_arr (σ.1 r).1 = true := by rw [h0]; rfl
  obtain ⟨b0, b1, b2, b3, b4, b5, b6⟩ := a_arrc hW ha
  rw [a_null_pos b0]
  have b30 := b3
  rw [h0] at b3 b4
  refine W.iast hx hb b3 (b4 _ _) (fun h => by cases h) (by rw [arrV_size]; exact hb1) rfl rfl hd (fun H1 e1 e2 e3 => ?_)
  have hz := g_astr (σ1 := a_set σ r w.toInt.toNat x.toInt) (i := w.toNatClampNeg) (v := .int x) hW hS ha (fun j => ?_) rfl rfl (fun q hq => ⟨by funext j; simp [a_set, upm, hq], rfl⟩) (hg0 r) (fun j => ?_) (by rw [h0]; exact e1) e2 e3
  · exact hK _ _ _ _ rfl L H1 _ cells slots lsC _ hn hx0 hz.1 hz.2 hc1 hc2 hl h6
  · rw [ew, h0]
    unfold a_ev updV
    by_cases hj : j = w.toInt.toNat
    · subst hj
      rw [if_pos rfl]
      simp [a_set, upm, i3_to]
    · rw [if_neg hj]
      rw [← ew] at hj
      simp [a_set, upm, hj]
  · show a_rg _ (upm σ.2.1 r w.toInt.toNat x.toInt r j)
    unfold upm
    split
    · unfold a_rg
      rw [h0, if_neg (by decide), if_neg (by decide), i3_to]
    · exact hr0 r j
theorem g_bastore (hx : p.tables.exec = Jvm.exec) (hb : c.code = cc) (hd : decode cc pc = .ok (.bastore, 1)) (hs : a_step m pc (.bastore) 1 ls st σ = some q) (hK : ∀ pc1 ls1 st1 σ1, q = .inl (pc1, ls1, st1, σ1) → a_Gd p l e R s mi args below meth c Z D tA bs aS L0 n0 mc ms cE sE pc1 ls1 st1 σ1) : a_Gd p l e R s mi args below meth c Z D tA bs aS L0 n0 mc ms cE sE pc ls st σ := by
  simp only [a_step] at hs
  obtain ⟨r, i, v0, st1, est, h9⟩ := pVIR_some hs
  subst est
  clear hs
  obtain ⟨z, st0, est, h9⟩ := pI_some h9
  obtain ⟨rfl, rfl⟩ := List.cons.inj est
  obtain ⟨h0, hs⟩ := a_ite h9
  have hs := Option.some.inj hs
  subst hs
  intro L H locs cells slots lsC stC hn hx0 hW hS hc1 hc2 hl hst
  obtain ⟨x, v1, ev, ex, h8⟩ := st_i hst
  subst ev
  subst ex
  obtain ⟨h0, hib, hfit⟩ := h0
  obtain ⟨w, v2, ev, ew, h7⟩ := st_i h8
  subst ev
  subst ew
  obtain ⟨v3, ev, hq2, h6⟩ := st_r h7
  subst ev
  obtain ⟨hK0, hA0, hb0, hc0, hj0, hf0, hz0, hn17, hg0, hr0, haS⟩ := id hW
  have hnar : narrow .boolean (.int x) = .int x := (a_int_nar (t1 := 2) (t := .boolean) rfl (by decide) hfit).1
  have hin := a_inb hib
  obtain ⟨hb1, hb2⟩ := i3_in hin.1 hin.2
  have ew : w.toNatClampNeg = w.toInt.toNat := rfl
  have ha : a_arr (σ.1 r).1 = true := by rw [h0]; rfl
  obtain ⟨b0, b1, b2, b3, b4, b5, b6⟩ := a_arrc hW ha
  rw [a_null_pos b0]
  have b30 := b3
  rw [h0] at b3 b4
  refine W.zast hx hb b3 (b4 _ _) (fun h => by cases h) (by rw [arrV_size]; exact hb1) rfl rfl hd (fun H1 e1 e2 e3 => ?_)
  have hz := g_astr (σ1 := a_set σ r w.toInt.toNat x.toInt) (i := w.toNatClampNeg) (v := narrow .boolean (.int x)) hW hS ha (fun j => ?_) rfl rfl (fun q hq => ⟨by funext j; simp [a_set, upm, hq], rfl⟩) (hg0 r) (fun j => ?_) (by rw [h0]; exact e1) e2 e3
  · exact hK _ _ _ _ rfl L H1 _ cells slots lsC _ hn hx0 hz.1 hz.2 hc1 hc2 hl h6
  · rw [ew, h0]
    unfold a_ev updV
    by_cases hj : j = w.toInt.toNat
    · subst hj
      rw [if_pos rfl]
      simp [a_set, upm, i3_to, hnar]
    · rw [if_neg hj]
      rw [← ew] at hj
      simp [a_set, upm, hj]
  · show a_rg _ (upm σ.2.1 r w.toInt.toNat x.toInt r j)
    unfold upm
    split
    · unfold a_rg
      rw [h0, if_neg (by decide), if_neg (by decide), i3_to]
    · exact hr0 r j
theorem g_lastore (hx : p.tables.exec = Jvm.exec) (hb : c.code = cc) (hd : decode cc pc = .ok (.lastore, 1)) (hs : a_step m pc (.lastore) 1 ls st σ = some q) (hK : ∀ pc1 ls1 st1 σ1, q = .inl (pc1, ls1, st1, σ1) → a_Gd p l e R s mi args below meth c Z D tA bs aS L0 n0 mc ms cE sE pc1 ls1 st1 σ1) : a_Gd p l e R s mi args below meth c Z D tA bs aS L0 n0 mc ms cE sE pc ls st σ := by
  simp only [a_step] at hs
  obtain ⟨r, i, v0, st1, est, h9⟩ := pVIR_some hs
  subst est
  clear hs
  obtain ⟨z, st0, est, h9⟩ := pL_some h9
  obtain ⟨rfl, rfl⟩ := List.cons.inj est
  obtain ⟨h0, hs⟩ := a_ite h9
  have hs := Option.some.inj hs
  subst hs
  intro L H locs cells slots lsC stC hn hx0 hW hS hc1 hc2 hl hst
  obtain ⟨x, v1, ev, ex, h8⟩ := st_l hst
  subst ev
  subst ex
  obtain ⟨h0, hib⟩ := h0
  obtain ⟨w, v2, ev, ew, h7⟩ := st_i h8
  subst ev
  subst ew
  obtain ⟨v3, ev, hq2, h6⟩ := st_r h7
  subst ev
  obtain ⟨hK0, hA0, hb0, hc0, hj0, hf0, hz0, hn17, hg0, hr0, haS⟩ := id hW

  have hin := a_inb hib
  obtain ⟨hb1, hb2⟩ := i3_in hin.1 hin.2
  have ew : w.toNatClampNeg = w.toInt.toNat := rfl
  have ha : a_arr (σ.1 r).1 = true := by rw [h0]; rfl
  obtain ⟨b0, b1, b2, b3, b4, b5, b6⟩ := a_arrc hW ha
  rw [a_null_pos b0]
  have b30 := b3
  rw [h0] at b3 b4
  refine W.last hx hb b3 (b4 _ _) (fun h => by cases h) (by rw [arrV_size]; exact hb1) rfl rfl hd (fun H1 e1 e2 e3 => ?_)
  have hz := g_astr (σ1 := a_set σ r w.toInt.toNat x.toInt) (i := w.toNatClampNeg) (v := .long x) hW hS ha (fun j => ?_) rfl rfl (fun q hq => ⟨by funext j; simp [a_set, upm, hq], rfl⟩) (hg0 r) (fun j => ?_) (by rw [h0]; exact e1) e2 e3
  · exact hK _ _ _ _ rfl L H1 _ cells slots lsC _ hn hx0 hz.1 hz.2 hc1 hc2 hl h6
  · rw [ew, h0]
    unfold a_ev updV
    by_cases hj : j = w.toInt.toNat
    · subst hj
      rw [if_pos rfl]
      simp [a_set, upm, Int64.ofInt_toInt]
    · rw [if_neg hj]
      rw [← ew] at hj
      simp [a_set, upm, hj]
  · show a_rg _ (upm σ.2.1 r w.toInt.toNat x.toInt r j)
    unfold upm
    split
    · unfold a_rg
      rw [if_pos h0, Int64.ofInt_toInt]
    · exact hr0 r j
theorem g_dastore (hx : p.tables.exec = Jvm.exec) (hb : c.code = cc) (hd : decode cc pc = .ok (.dastore, 1)) (hs : a_step m pc (.dastore) 1 ls st σ = some q) (hK : ∀ pc1 ls1 st1 σ1, q = .inl (pc1, ls1, st1, σ1) → a_Gd p l e R s mi args below meth c Z D tA bs aS L0 n0 mc ms cE sE pc1 ls1 st1 σ1) : a_Gd p l e R s mi args below meth c Z D tA bs aS L0 n0 mc ms cE sE pc ls st σ := by
  simp only [a_step] at hs
  obtain ⟨r, i, v0, st1, est, h9⟩ := pVIR_some hs
  subst est
  clear hs
  obtain ⟨z, st0, est, h9⟩ := pD_some h9
  obtain ⟨rfl, rfl⟩ := List.cons.inj est
  obtain ⟨h0, hs⟩ := a_ite h9
  have hs := Option.some.inj hs
  subst hs
  intro L H locs cells slots lsC stC hn hx0 hW hS hc1 hc2 hl hst
  obtain ⟨v1, ev, h8⟩ := st_d hst
  subst ev
  obtain ⟨h0, hib⟩ := h0
  obtain ⟨w, v2, ev, ew, h7⟩ := st_i h8
  subst ev
  subst ew
  obtain ⟨v3, ev, hq2, h6⟩ := st_r h7
  subst ev
  obtain ⟨hK0, hA0, hb0, hc0, hj0, hf0, hz0, hn17, hg0, hr0, haS⟩ := id hW

  have hin := a_inb hib
  obtain ⟨hb1, hb2⟩ := i3_in hin.1 hin.2
  have ew : w.toNatClampNeg = w.toInt.toNat := rfl
  have ha : a_arr (σ.1 r).1 = true := by rw [h0]; rfl
  obtain ⟨b0, b1, b2, b3, b4, b5, b6⟩ := a_arrc hW ha
  rw [a_null_pos b0]
  have b30 := b3
  rw [h0] at b3 b4
  refine W.dast hx hb b3 (b4 _ _) (fun h => by cases h) (by rw [arrV_size]; exact hb1) rfl rfl hd (fun H1 e1 e2 e3 => ?_)
  have hz := g_astr (σ1 := a_set σ r w.toInt.toNat (z.toNat : Int)) (i := w.toNatClampNeg) (v := .double z) hW hS ha (fun j => ?_) rfl rfl (fun q hq => ⟨by funext j; simp [a_set, upm, hq], rfl⟩) (hg0 r) (fun j => ?_) (by rw [h0]; exact e1) e2 e3
  · exact hK _ _ _ _ rfl L H1 _ cells slots lsC _ hn hx0 hz.1 hz.2 hc1 hc2 hl h6
  · rw [ew, h0]
    unfold a_ev updV
    by_cases hj : j = w.toInt.toNat
    · subst hj
      rw [if_pos rfl]
      simp [a_set, upm]
    · rw [if_neg hj]
      rw [← ew] at hj
      simp [a_set, upm, hj]
  · show a_rg _ (upm σ.2.1 r w.toInt.toNat (z.toNat : Int) r j)
    unfold upm
    split
    · unfold a_rg
      rw [if_neg (by omega), if_pos h0]; simp
    · exact hr0 r j
theorem g_aastore (hx : p.tables.exec = Jvm.exec) (hb : c.code = cc) (hd : decode cc pc = .ok (.aastore, 1)) (hs : a_step m pc (.aastore) 1 ls st σ = some q) (hK : ∀ pc1 ls1 st1 σ1, q = .inl (pc1, ls1, st1, σ1) → a_Gd p l e R s mi args below meth c Z D tA bs aS L0 n0 mc ms cE sE pc1 ls1 st1 σ1) : a_Gd p l e R s mi args below meth c Z D tA bs aS L0 n0 mc ms cE sE pc ls st σ := by
  simp only [a_step] at hs
  obtain ⟨r, i, v0, st1, est, h9⟩ := pVIR_some hs
  subst est
  clear hs
  obtain ⟨z, st0, est, h9⟩ := pR_some h9
  obtain ⟨rfl, rfl⟩ := List.cons.inj est
  obtain ⟨⟨h0, hz1, hz2, hib⟩, hs⟩ := a_ite h9
  have hs := Option.some.inj hs
  subst hs
  intro L H locs cells slots lsC stC hn hx0 hW hS hc1 hc2 hl hst
  obtain ⟨v1, ev, hqz, h8⟩ := st_r hst
  subst ev
  obtain ⟨w, v2, ev, ew, h7⟩ := st_i h8
  subst ev
  subst ew
  obtain ⟨v3, ev, hq2, h6⟩ := st_r h7
  subst ev
  obtain ⟨hK0, hA0, hb0, hc0, hj0, hf0, hz0, hn17, hg0, hr0, haS⟩ := id hW
  have hin := a_inb hib
  obtain ⟨hb1, hb2⟩ := i3_in hin.1 hin.2
  have ew : w.toNatClampNeg = w.toInt.toNat := rfl
  have hcell := hc0 r (by omega)
  have ha : a_arr (σ.1 r).1 = true := by
    unfold a_cell at hcell
    rw [if_neg (by omega), if_neg (by omega), if_neg (by omega), if_neg (by omega)] at hcell
    exact hcell.1
  obtain ⟨b0, b1, b2, b3, b4, b5, b6⟩ := a_arrc hW ha
  have hz00 : z ≠ 0 := fun q => by subst q; omega
  rw [a_null_pos b0, a_null_pos hz00]
  have h1 := ha
  simp only [a_arr, Bool.or_eq_true, decide_eq_true_eq] at h1
  have he : a_elem (σ.1 r).1 = .object (k_name ((σ.1 z).1 - 1)) := by
    unfold a_elem
    rw [if_neg (by omega), if_neg (by omega), if_neg (by omega), if_neg (by omega)]
    congr 2
    omega
  rw [he] at b4 b5
  obtain ⟨kA, comp, k1, k2, k3, -⟩ := b5
  have hcz := hc0 z hz2
  unfold a_cell at hcz
  rw [if_pos (by omega)] at hcz
  obtain ⟨-, cellV, g1, g2, g3, -⟩ := hcz
  have hcls := (hK0.1 ((σ.1 z).1 - 1) _ (k_cl _ (by omega))).2
  have hcomp : comp = D.1 ((σ.1 z).1 - 1) := Option.some.inj (k3.symm.trans hcls.1)
  subst hcomp
  obtain ⟨kC, hkC, -⟩ := hcls.2
  refine W.aast hx hb b3 (fun q h => by cases h) (fun h => by cases h) k1 k2 rfl hkC ⟨fun h => hb1 (Or.inl h), by rw [arrV_size]; exact hb2⟩ g1 (fun q h => by rw [g3] at h; cases h) (by rw [g2]; exact hkC) (by rw [g2]; exact va_assign hcls) rfl rfl hd (fun H1 e1 e2 e3 => ?_)
  have hz := g_astr (σ1 := a_setr σ r w.toInt.toNat z) (i := w.toNatClampNeg) (v := .ref (L z)) hW hS ha (fun j => ?_) rfl rfl (fun q hq => ⟨rfl, by funext j; simp [a_setr, upm, hq]⟩) (fun j => ?_) (hr0 r) e1 e2 e3
  · exact hK _ _ _ _ rfl L H1 _ cells slots lsC _ hn hx0 hz.1 hz.2 hc1 hc2 hl h6
  · rw [ew]
    unfold a_ev updV
    by_cases hj : j = w.toInt.toNat
    · subst hj
      rw [if_pos h0, if_pos rfl]
      simp [a_setr, upm, a_null_pos hz00]
    · rw [if_neg hj]
      rw [← ew] at hj
      simp [a_setr, upm, hj]
  · show upm σ.2.2.1 r w.toInt.toNat z r j < _
    unfold upm
    split
    · exact hqz
    · exact hg0 r j
theorem g_newa_int (hx : p.tables.exec = Jvm.exec) (hb : c.code = cc) (hown : s.vm.findClass (o_name (m_own m)) = some mi.cls) (hts : ∀ w ∈ w_all, w.before args s = true) (hrc : mc ≤ R.cells) (hrs : ms ≤ R.slots) (hd : decode cc pc = .ok (.newarray .int, 2)) (hs : a_step m pc (.newarray .int) 2 ls st σ = some q) (hle : ∀ pc1 ls1 st1 σ1, q = .inl (pc1, ls1, st1, σ1) → σ1.2.2.2.2.1 ≤ cE ∧ σ1.2.2.2.2.2 ≤ sE) (hK : ∀ pc1 ls1 st1 σ1, q = .inl (pc1, ls1, st1, σ1) → a_Gd p l e R s mi args below meth c Z D tA bs aS L0 n0 mc ms cE sE pc1 ls1 st1 σ1) : a_Gd p l e R s mi args below meth c Z D tA bs aS L0 n0 mc ms cE sE pc ls st σ := by
  simp only [a_step] at hs
  obtain ⟨n, st1, est, h9⟩ := pI_some hs
  subst est
  clear hs
  obtain ⟨h0, hs⟩ := a_ite h9
  have hs := Option.some.inj hs
  subst hs
  have hle := hle _ _ _ _ rfl
  have hle1 : σ.2.2.2.2.1 + 1 ≤ cE := hle.1
  have hle2 : σ.2.2.2.2.2 + n.toNat ≤ sE := hle.2
  intro L H locs cells slots lsC stC hn hx0 hW hS hc1 hc2 hl hst
  obtain ⟨w, v1, ev, ew, h8⟩ := st_i hst
  subst ev
  subst ew
  obtain ⟨hK0, hA0, hb0, hc0, hj0, hf0, hz0, hn17, hg0, hr0, haS⟩ := id hW
  have ew : w.toNatClampNeg = w.toInt.toNat := rfl
  have hw0 : ¬ w < 0 := fun z => by rw [Int32.lt_iff_toInt_lt, Int32.toInt_zero] at z; omega
  refine va_newaK (atype := .int) hx hb (hts _ w_na_int) rfl hd rfl hw0 ew (by show _ * 4 ≤ _; omega) (by omega) (by omega) rfl (fun H1 cA e1 z1 o1 hAr hNm => ?_)
  have hra : va_RA s (tA 20) .int := (hA0 20 rfl).2
  have hcA : cA = tA 20 := Option.some.inj (hNm.symm.trans hra)
  subst hcA
  have hm := hW.mk (k := 20) (len := w.toInt.toNat) (n := w.toInt.toNat) rfl z1 o1 (by
    unfold a_cell
    have ek : (a_new σ 20 w.toInt.toNat w.toInt.toNat).1 σ.2.2.2.1 = (20, w.toInt.toNat) := by simp [a_new, upk]
    rw [ek, if_neg (by show ¬ 20 ≤ 11; omega), if_neg (by show ¬ 20 = 24; omega), if_neg (by show ¬ 20 = 25; omega), if_neg (by show ¬ 20 = 26; omega), va_up_self]
    refine ⟨rfl, hb0, by show w.toInt.toNat < _; omega, ?_⟩
    rw [e1]
    congr 2
    funext j
    unfold a_ev
    simp [a_new, upr]
    rfl)
  refine hK _ _ _ _ rfl (va_up L σ.2.2.2.1 H.size) H1 locs (cells + 1) (slots + w.toInt.toNat) lsC _ (by show n0 ≤ σ.2.2.2.1 + 1; omega) (hx0.trans hm.2 hn) hm.1 ⟨Nat.le_trans hS.1 (by omega), fun x h1 h2 => (o1 x (Nat.lt_of_lt_of_le h1 hS.1)).trans (hS.2.1 x h1 h2), hS.2.2⟩ (by show cells + 1 + cE ≤ mc + (σ.2.2.2.2.1 + 1); omega) (by show slots + w.toInt.toNat + sE ≤ ms + (σ.2.2.2.2.2 + w.toInt.toNat); omega) (hl.to hm.2 (Nat.le_succ _)) ⟨rfl, ⟨Nat.lt_succ_self _, ?_⟩, h8.to hm.2 (Nat.le_succ _)⟩
  rw [a_null_pos (by omega), va_up_self]
theorem g_newa_boolean (hx : p.tables.exec = Jvm.exec) (hb : c.code = cc) (hown : s.vm.findClass (o_name (m_own m)) = some mi.cls) (hts : ∀ w ∈ w_all, w.before args s = true) (hrc : mc ≤ R.cells) (hrs : ms ≤ R.slots) (hd : decode cc pc = .ok (.newarray .boolean, 2)) (hs : a_step m pc (.newarray .boolean) 2 ls st σ = some q) (hle : ∀ pc1 ls1 st1 σ1, q = .inl (pc1, ls1, st1, σ1) → σ1.2.2.2.2.1 ≤ cE ∧ σ1.2.2.2.2.2 ≤ sE) (hK : ∀ pc1 ls1 st1 σ1, q = .inl (pc1, ls1, st1, σ1) → a_Gd p l e R s mi args below meth c Z D tA bs aS L0 n0 mc ms cE sE pc1 ls1 st1 σ1) : a_Gd p l e R s mi args below meth c Z D tA bs aS L0 n0 mc ms cE sE pc ls st σ := by
  simp only [a_step] at hs
  obtain ⟨n, st1, est, h9⟩ := pI_some hs
  subst est
  clear hs
  obtain ⟨h0, hs⟩ := a_ite h9
  have hs := Option.some.inj hs
  subst hs
  have hle := hle _ _ _ _ rfl
  have hle1 : σ.2.2.2.2.1 + 1 ≤ cE := hle.1
  have hle2 : σ.2.2.2.2.2 + n.toNat ≤ sE := hle.2
  intro L H locs cells slots lsC stC hn hx0 hW hS hc1 hc2 hl hst
  obtain ⟨w, v1, ev, ew, h8⟩ := st_i hst
  subst ev
  subst ew
  obtain ⟨hK0, hA0, hb0, hc0, hj0, hf0, hz0, hn17, hg0, hr0, haS⟩ := id hW
  have ew : w.toNatClampNeg = w.toInt.toNat := rfl
  have hw0 : ¬ w < 0 := fun z => by rw [Int32.lt_iff_toInt_lt, Int32.toInt_zero] at z; omega
  refine va_newaK (atype := .boolean) hx hb (hts _ w_na_boolean) rfl hd rfl hw0 ew (by show _ * 1 ≤ _; omega) (by omega) (by omega) rfl (fun H1 cA e1 z1 o1 hAr hNm => ?_)
  have hra : va_RA s (tA 21) .boolean := (hA0 21 rfl).2
  have hcA : cA = tA 21 := Option.some.inj (hNm.symm.trans hra)
  subst hcA
  have hm := hW.mk (k := 21) (len := w.toInt.toNat) (n := w.toInt.toNat) rfl z1 o1 (by
    unfold a_cell
    have ek : (a_new σ 21 w.toInt.toNat w.toInt.toNat).1 σ.2.2.2.1 = (21, w.toInt.toNat) := by simp [a_new, upk]
    rw [ek, if_neg (by show ¬ 21 ≤ 11; omega), if_neg (by show ¬ 21 = 24; omega), if_neg (by show ¬ 21 = 25; omega), if_neg (by show ¬ 21 = 26; omega), va_up_self]
    refine ⟨rfl, hb0, by show w.toInt.toNat < _; omega, ?_⟩
    rw [e1]
    congr 2
    funext j
    unfold a_ev
    simp [a_new, upr]
    rfl)
  refine hK _ _ _ _ rfl (va_up L σ.2.2.2.1 H.size) H1 locs (cells + 1) (slots + w.toInt.toNat) lsC _ (by show n0 ≤ σ.2.2.2.1 + 1; omega) (hx0.trans hm.2 hn) hm.1 ⟨Nat.le_trans hS.1 (by omega), fun x h1 h2 => (o1 x (Nat.lt_of_lt_of_le h1 hS.1)).trans (hS.2.1 x h1 h2), hS.2.2⟩ (by show cells + 1 + cE ≤ mc + (σ.2.2.2.2.1 + 1); omega) (by show slots + w.toInt.toNat + sE ≤ ms + (σ.2.2.2.2.2 + w.toInt.toNat); omega) (hl.to hm.2 (Nat.le_succ _)) ⟨rfl, ⟨Nat.lt_succ_self _, ?_⟩, h8.to hm.2 (Nat.le_succ _)⟩
  rw [a_null_pos (by omega), va_up_self]
theorem g_newa_long (hx : p.tables.exec = Jvm.exec) (hb : c.code = cc) (hown : s.vm.findClass (o_name (m_own m)) = some mi.cls) (hts : ∀ w ∈ w_all, w.before args s = true) (hrc : mc ≤ R.cells) (hrs : ms ≤ R.slots) (hd : decode cc pc = .ok (.newarray .long, 2)) (hs : a_step m pc (.newarray .long) 2 ls st σ = some q) (hle : ∀ pc1 ls1 st1 σ1, q = .inl (pc1, ls1, st1, σ1) → σ1.2.2.2.2.1 ≤ cE ∧ σ1.2.2.2.2.2 ≤ sE) (hK : ∀ pc1 ls1 st1 σ1, q = .inl (pc1, ls1, st1, σ1) → a_Gd p l e R s mi args below meth c Z D tA bs aS L0 n0 mc ms cE sE pc1 ls1 st1 σ1) : a_Gd p l e R s mi args below meth c Z D tA bs aS L0 n0 mc ms cE sE pc ls st σ := by
  simp only [a_step] at hs
  obtain ⟨n, st1, est, h9⟩ := pI_some hs
  subst est
  clear hs
  obtain ⟨h0, hs⟩ := a_ite h9
  have hs := Option.some.inj hs
  subst hs
  have hle := hle _ _ _ _ rfl
  have hle1 : σ.2.2.2.2.1 + 1 ≤ cE := hle.1
  have hle2 : σ.2.2.2.2.2 + n.toNat ≤ sE := hle.2
  intro L H locs cells slots lsC stC hn hx0 hW hS hc1 hc2 hl hst
  obtain ⟨w, v1, ev, ew, h8⟩ := st_i hst
  subst ev
  subst ew
  obtain ⟨hK0, hA0, hb0, hc0, hj0, hf0, hz0, hn17, hg0, hr0, haS⟩ := id hW
  have ew : w.toNatClampNeg = w.toInt.toNat := rfl
  have hw0 : ¬ w < 0 := fun z => by rw [Int32.lt_iff_toInt_lt, Int32.toInt_zero] at z; omega
  refine va_newaK (atype := .long) hx hb (hts _ w_na_long) rfl hd rfl hw0 ew (by show _ * 8 ≤ _; omega) (by omega) (by omega) rfl (fun H1 cA e1 z1 o1 hAr hNm => ?_)
  have hra : va_RA s (tA 22) .long := (hA0 22 rfl).2
  have hcA : cA = tA 22 := Option.some.inj (hNm.symm.trans hra)
  subst hcA
  have hm := hW.mk (k := 22) (len := w.toInt.toNat) (n := w.toInt.toNat) rfl z1 o1 (by
    unfold a_cell
    have ek : (a_new σ 22 w.toInt.toNat w.toInt.toNat).1 σ.2.2.2.1 = (22, w.toInt.toNat) := by simp [a_new, upk]
    rw [ek, if_neg (by show ¬ 22 ≤ 11; omega), if_neg (by show ¬ 22 = 24; omega), if_neg (by show ¬ 22 = 25; omega), if_neg (by show ¬ 22 = 26; omega), va_up_self]
    refine ⟨rfl, hb0, by show w.toInt.toNat < _; omega, ?_⟩
    rw [e1]
    congr 2
    funext j
    unfold a_ev
    simp [a_new, upr]
    rfl)
  refine hK _ _ _ _ rfl (va_up L σ.2.2.2.1 H.size) H1 locs (cells + 1) (slots + w.toInt.toNat) lsC _ (by show n0 ≤ σ.2.2.2.1 + 1; omega) (hx0.trans hm.2 hn) hm.1 ⟨Nat.le_trans hS.1 (by omega), fun x h1 h2 => (o1 x (Nat.lt_of_lt_of_le h1 hS.1)).trans (hS.2.1 x h1 h2), hS.2.2⟩ (by show cells + 1 + cE ≤ mc + (σ.2.2.2.2.1 + 1); omega) (by show slots + w.toInt.toNat + sE ≤ ms + (σ.2.2.2.2.2 + w.toInt.toNat); omega) (hl.to hm.2 (Nat.le_succ _)) ⟨rfl, ⟨Nat.lt_succ_self _, ?_⟩, h8.to hm.2 (Nat.le_succ _)⟩
  rw [a_null_pos (by omega), va_up_self]
theorem g_newa_double (hx : p.tables.exec = Jvm.exec) (hb : c.code = cc) (hown : s.vm.findClass (o_name (m_own m)) = some mi.cls) (hts : ∀ w ∈ w_all, w.before args s = true) (hrc : mc ≤ R.cells) (hrs : ms ≤ R.slots) (hd : decode cc pc = .ok (.newarray .double, 2)) (hs : a_step m pc (.newarray .double) 2 ls st σ = some q) (hle : ∀ pc1 ls1 st1 σ1, q = .inl (pc1, ls1, st1, σ1) → σ1.2.2.2.2.1 ≤ cE ∧ σ1.2.2.2.2.2 ≤ sE) (hK : ∀ pc1 ls1 st1 σ1, q = .inl (pc1, ls1, st1, σ1) → a_Gd p l e R s mi args below meth c Z D tA bs aS L0 n0 mc ms cE sE pc1 ls1 st1 σ1) : a_Gd p l e R s mi args below meth c Z D tA bs aS L0 n0 mc ms cE sE pc ls st σ := by
  simp only [a_step] at hs
  obtain ⟨n, st1, est, h9⟩ := pI_some hs
  subst est
  clear hs
  obtain ⟨h0, hs⟩ := a_ite h9
  have hs := Option.some.inj hs
  subst hs
  have hle := hle _ _ _ _ rfl
  have hle1 : σ.2.2.2.2.1 + 1 ≤ cE := hle.1
  have hle2 : σ.2.2.2.2.2 + n.toNat ≤ sE := hle.2
  intro L H locs cells slots lsC stC hn hx0 hW hS hc1 hc2 hl hst
  obtain ⟨w, v1, ev, ew, h8⟩ := st_i hst
  subst ev
  subst ew
  obtain ⟨hK0, hA0, hb0, hc0, hj0, hf0, hz0, hn17, hg0, hr0, haS⟩ := id hW
  have ew : w.toNatClampNeg = w.toInt.toNat := rfl
  have hw0 : ¬ w < 0 := fun z => by rw [Int32.lt_iff_toInt_lt, Int32.toInt_zero] at z; omega
  refine va_newaK (atype := .double) hx hb (hts _ w_na_double) rfl hd rfl hw0 ew (by show _ * 8 ≤ _; omega) (by omega) (by omega) rfl (fun H1 cA e1 z1 o1 hAr hNm => ?_)
  have hra : va_RA s (tA 23) .double := (hA0 23 rfl).2
  have hcA : cA = tA 23 := Option.some.inj (hNm.symm.trans hra)
  subst hcA
  have hm := hW.mk (k := 23) (len := w.toInt.toNat) (n := w.toInt.toNat) rfl z1 o1 (by
    unfold a_cell
    have ek : (a_new σ 23 w.toInt.toNat w.toInt.toNat).1 σ.2.2.2.1 = (23, w.toInt.toNat) := by simp [a_new, upk]
    rw [ek, if_neg (by show ¬ 23 ≤ 11; omega), if_neg (by show ¬ 23 = 24; omega), if_neg (by show ¬ 23 = 25; omega), if_neg (by show ¬ 23 = 26; omega), va_up_self]
    refine ⟨rfl, hb0, by show w.toInt.toNat < _; omega, ?_⟩
    rw [e1]
    congr 2
    funext j
    unfold a_ev
    simp [a_new, upr]
    rfl)
  refine hK _ _ _ _ rfl (va_up L σ.2.2.2.1 H.size) H1 locs (cells + 1) (slots + w.toInt.toNat) lsC _ (by show n0 ≤ σ.2.2.2.1 + 1; omega) (hx0.trans hm.2 hn) hm.1 ⟨Nat.le_trans hS.1 (by omega), fun x h1 h2 => (o1 x (Nat.lt_of_lt_of_le h1 hS.1)).trans (hS.2.1 x h1 h2), hS.2.2⟩ (by show cells + 1 + cE ≤ mc + (σ.2.2.2.2.1 + 1); omega) (by show slots + w.toInt.toNat + sE ≤ ms + (σ.2.2.2.2.2 + w.toInt.toNat); omega) (hl.to hm.2 (Nat.le_succ _)) ⟨rfl, ⟨Nat.lt_succ_self _, ?_⟩, h8.to hm.2 (Nat.le_succ _)⟩
  rw [a_null_pos (by omega), va_up_self]
theorem g_new {n c1 : Nat} (hx : p.tables.exec = Jvm.exec) (hb : c.code = cc) (hown : s.vm.findClass (o_name (m_own m)) = some mi.cls) (hts : ∀ w ∈ w_all, w.before args s = true) (hrc : mc ≤ R.cells) (hrs : ms ≤ R.slots) (hn0 : n < 10000) (hcn : c_new (m_own m) n = some (.inl c1)) (hd : decode cc pc = .ok (.new n, 3)) (hs : a_step m pc (.new n) 3 ls st σ = some q) (hle : ∀ pc1 ls1 st1 σ1, q = .inl (pc1, ls1, st1, σ1) → σ1.2.2.2.2.1 ≤ cE ∧ σ1.2.2.2.2.2 ≤ sE) (hK : ∀ pc1 ls1 st1 σ1, q = .inl (pc1, ls1, st1, σ1) → a_Gd p l e R s mi args below meth c Z D tA bs aS L0 n0 mc ms cE sE pc1 ls1 st1 σ1) : a_Gd p l e R s mi args below meth c Z D tA bs aS L0 n0 mc ms cE sE pc ls st σ := by
  simp only [a_step] at hs
  rw [hcn] at hs
  have hs := Option.some.inj hs
  subst hs
  have hN := c_new_ok hcn
  simp only [n_ok, (k_div hn0).1, (k_div hn0).2] at hN
  obtain ⟨hc11, hw1, hw2, hw3⟩ := hN
  have hle := hle _ _ _ _ rfl
  have hle1 : σ.2.2.2.2.1 + 1 ≤ cE := hle.1
  have hle2 : σ.2.2.2.2.2 + k_size c1 ≤ sE := hle.2
  intro L H locs cells slots lsC stC hn hx0 hW hS hc1 hc2 hl hst
  obtain ⟨hK0, hA0, hb0, hc0, hj0, hf0, hz0, hn17, hg0, hr0, haS⟩ := id hW
  have hKn := hK0.1 c1 _ (k_cl c1 hc11)
  refine W.newcK hx hb hown (hts _ hw1) (hts _ hw2) (hts _ hw3) rfl hd (by omega) (by omega) hKn.2.1 rfl (fun H1 kC hkC e1 z1 o1 => ?_)
  have hm := hW.mk (k := c1 + 1) (len := 0) (n := k_size c1) (by simp [a_wr]; omega) z1 o1 (by
    unfold a_cell
    have ek : (a_new σ (c1 + 1) 0 (k_size c1)).1 σ.2.2.2.1 = (c1 + 1, 0) := by simp [a_new, upk]
    rw [ek, if_pos (by show c1 + 1 ≤ 11; omega), va_up_self]
    refine ⟨hb0, ?_⟩
    refine (u_born (k_ty c1) hts (k_ws c1 hc11) hKn hkC e1 (k_ty_ok c1 hc11)).to (fun j hj => ?_)
    have hkn := k_kn c1 hc11 j hj
    show defaultValue (k_ty c1 j) = a_fv _ _ c1 _ j
    unfold a_fv k_ref
    cases hq : k_ty c1 j <;> rw [hq] at hkn <;> simp [f_kn] at hkn <;> simp [a_new, upr, a_null] <;> rfl)
  refine hK _ _ _ _ rfl (va_up L σ.2.2.2.1 H.size) H1 locs (cells + 1) (slots + k_size c1) lsC _ (by show n0 ≤ σ.2.2.2.1 + 1; omega) (hx0.trans hm.2 hn) hm.1 ⟨Nat.le_trans hS.1 (by omega), fun x h1 h2 => (o1 x (Nat.lt_of_lt_of_le h1 hS.1)).trans (hS.2.1 x h1 h2), hS.2.2⟩ (by show cells + 1 + cE ≤ mc + (σ.2.2.2.2.1 + 1); omega) (by show slots + k_size c1 + sE ≤ ms + (σ.2.2.2.2.2 + k_size c1); omega) (hl.to hm.2 (Nat.le_succ _)) ⟨rfl, ⟨Nat.lt_succ_self _, ?_⟩, hst.to hm.2 (Nat.le_succ _)⟩
  rw [a_null_pos (by omega), va_up_self]
theorem g_anewa {n : Nat} (hx : p.tables.exec = Jvm.exec) (hb : c.code = cc) (hown : s.vm.findClass (o_name (m_own m)) = some mi.cls) (hts : ∀ w ∈ w_all, w.before args s = true) (hrc : mc ≤ R.cells) (hrs : ms ≤ R.slots) (hn0 : n < 10000) (hao : ∀ c1, c_new (m_own m) n = some (.inl c1) → va_AO (k_name c1) s ∧ a_arr (c1 + 30) = true) (hd : decode cc pc = .ok (.anewarray n, 3)) (hs : a_step m pc (.anewarray n) 3 ls st σ = some q) (hle : ∀ pc1 ls1 st1 σ1, q = .inl (pc1, ls1, st1, σ1) → σ1.2.2.2.2.1 ≤ cE ∧ σ1.2.2.2.2.2 ≤ sE) (hK : ∀ pc1 ls1 st1 σ1, q = .inl (pc1, ls1, st1, σ1) → a_Gd p l e R s mi args below meth c Z D tA bs aS L0 n0 mc ms cE sE pc1 ls1 st1 σ1) : a_Gd p l e R s mi args below meth c Z D tA bs aS L0 n0 mc ms cE sE pc ls st σ := by
  simp only [a_step] at hs
  cases hcn : c_new (m_own m) n with
  | none => rw [hcn] at hs; cases hs
  | some x =>
    cases x with
    | inr e1 => rw [hcn] at hs; cases hs
    | inl c1 =>
      rw [hcn] at hs
      obtain ⟨n1, st1, est, h9⟩ := pI_some hs
      subst est
      clear hs
      obtain ⟨h0, hs⟩ := a_ite h9
      have hs := Option.some.inj hs
      subst hs
      have hN := c_new_ok hcn
      simp only [n_ok, (k_div hn0).1, (k_div hn0).2] at hN
      obtain ⟨hc11, hw1, hw2, hw3⟩ := hN
      obtain ⟨hao1, hao2⟩ := hao c1 hcn
      have hle := hle _ _ _ _ rfl
      have hle1 : σ.2.2.2.2.1 + 1 ≤ cE := hle.1
      have hle2 : σ.2.2.2.2.2 + n1.toNat ≤ sE := hle.2
      intro L H locs cells slots lsC stC hn hx0 hW hS hc1 hc2 hl hst
      obtain ⟨w, v1, ev, ew, h8⟩ := st_i hst
      subst ev
      subst ew
      obtain ⟨hK0, hA0, hb0, hc0, hj0, hf0, hz0, hn17, hg0, hr0, haS⟩ := id hW
      have ew : w.toNatClampNeg = w.toInt.toNat := rfl
      have hw0 : ¬ w < 0 := fun z => by rw [Int32.lt_iff_toInt_lt, Int32.toInt_zero] at z; omega
      refine W.anew hx hb hown (hts _ hw1) (va_AO.use hao1) rfl hd rfl hw0 (by omega) (by omega) (by omega) (fun cA kA comp f1 f2 f3 f4 => ?_)
      generalize hH1 : H.push ({ cls := cA, slots := Array.replicate w.toNatClampNeg .null, vm := .none } : Cell) = H1
      have z1 : H1.size = H.size + 1 := by rw [← hH1, Array.size_push]
      have e1 : H1[H.size]? = some (arrV cA w.toNatClampNeg (fun _ => .null)) := by rw [← hH1, Array.getElem?_push_size, ← arrV_new]
      have o1 : ∀ q : Nat, q < H.size → H1[q]? = H[q]? := fun q hq => by rw [← hH1, Array.getElem?_push, if_neg (Nat.ne_of_lt hq)]
      have hra := (hA0 (c1 + 30) hao2).2
      have he : a_elem (c1 + 30) = .object (k_name c1) := by
        unfold a_elem
        rw [if_neg (by omega), if_neg (by omega), if_neg (by omega), if_neg (by omega), Nat.add_sub_cancel]
      rw [he] at hra
      obtain ⟨_, _, -, -, -, hra⟩ := hra
      have hcA : cA = tA (c1 + 30) := Option.some.inj (f1.symm.trans hra)
      subst hcA
      have hm := hW.mk (k := c1 + 30) (len := w.toInt.toNat) (n := w.toInt.toNat) (by simp [a_wr]) z1 o1 (by
        unfold a_cell
        have ek : (a_new σ (c1 + 30) w.toInt.toNat w.toInt.toNat).1 σ.2.2.2.1 = (c1 + 30, w.toInt.toNat) := by simp [a_new, upk]
        rw [ek, if_neg (by show ¬ c1 + 30 ≤ 11; omega), if_neg (by show ¬ c1 + 30 = 24; omega), if_neg (by show ¬ c1 + 30 = 25; omega), if_neg (by show ¬ c1 + 30 = 26; omega), va_up_self]
        refine ⟨hao2, hb0, by show w.toInt.toNat < _; omega, ?_⟩
        rw [e1]
        congr 2
        funext j
        unfold a_ev
        rw [if_pos (by show 30 ≤ c1 + 30; omega)]
        simp [a_new, upr, a_null])
      refine hK _ _ _ _ rfl (va_up L σ.2.2.2.1 H.size) H1 locs (cells + 1) (slots + w.toInt.toNat) lsC _ (by show n0 ≤ σ.2.2.2.1 + 1; omega) (hx0.trans hm.2 hn) hm.1 ⟨Nat.le_trans hS.1 (by omega), fun x h1 h2 => (o1 x (Nat.lt_of_lt_of_le h1 hS.1)).trans (hS.2.1 x h1 h2), hS.2.2⟩ (by show cells + 1 + cE ≤ mc + (σ.2.2.2.2.1 + 1); omega) (by show slots + w.toInt.toNat + sE ≤ ms + (σ.2.2.2.2.2 + w.toInt.toNat); omega) (hl.to hm.2 (Nat.le_succ _)) ⟨rfl, ⟨Nat.lt_succ_self _, ?_⟩, h8.to hm.2 (Nat.le_succ _)⟩
      rw [a_null_pos (by omega), va_up_self]
end SH
