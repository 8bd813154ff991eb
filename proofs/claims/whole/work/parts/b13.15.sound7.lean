/-! ===== steps of the JDK, statics, constants ===== -/
section SZ
variable {p : Program} {l : Launch} {e : Env} {R : Room} {s : State} {mi : MethodId} {args : Array Value} {below : List Frame} {meth : Method} {c : Code} {Z : State → Prop} {D : va_G} {tA : Nat → ClassId} {bs : Nat} {aS L0 : Nat → Nat} {n0 mc ms cE sE : Nat} {m pc : Nat} {ls st : List AV} {σ : AS} {q : SR}
theorem g_oi {i : Nat} (F : a_Fx p l R s mi args meth c bs aS m) (hrm : 1 ≤ m_fr m ∧ 40 ≤ m_lo m) (hls : ls.length = m_maxL m) (hi : i < 10000) (hcal : c_cal (m_own m) i = some 1000) (hd : decode (m_bytes m) pc = .ok (.invokespecial i, 3)) (hs : a_call 1000 pc 3 ls st σ = some q) (hK : ∀ pc1 ls1 st1 σ1, q = .inl (pc1, ls1, st1, σ1) → a_Gd p l e R s mi args below meth c Z D tA bs aS L0 n0 mc ms cE sE pc1 ls1 st1 σ1) : a_Gd p l e R s mi args below meth c Z D tA bs aS L0 n0 mc ms cE sE pc ls st σ := by
  unfold a_call at hs
  rw [if_neg (by omega), if_pos rfl] at hs
  obtain ⟨r, st1, est, h9⟩ := pR_some hs
  subst est
  clear hs
  obtain ⟨h0, hs⟩ := a_ite h9
  have hs := Option.some.inj hs
  subst hs
  intro L H locs cells slots lsC stC hn hx0 hW hS hc1 hc2 hl hst
  obtain ⟨v1, ev, hq, h8⟩ := st_r hst
  subst ev
  have hr00 : r ≠ 0 := fun z => h0.1 (by rw [z]; exact hW.2.2.2.2.2.2.1)
  rw [a_null_pos hr00]
  obtain ⟨hx, hb, hml, -, -, hown, hts, -, -, -, -, hfr, hlo⟩ := F
  have hC := c_cal_ok hcal
  simp only [c_ok, (k_div hi).1, (k_div hi).2] at hC
  have hlk : Jvm.Cond.methodLink (o_name (m_own m)) i objectInit ∈ w_all := by
    rcases hC with h | h | h | h | h
    · exact absurd h.1 (by omega)
    · exact h.2
    · exact absurd h.1 (by omega)
    · exact absurd h.1 (by omega)
    · exact absurd h.1 (by omega)
  have hsum := a_st_sum h8
  have h2 := h0.2
  exact W.objInit hx hb hown (hts _ hlk) (hts _ w_oi) (hts _ w_oc) rfl (by rw [hml, ← hls]; exact hl.1) rfl hd (by omega) (by show 2 * 0 + (v1.map fun v => v.category).sum + 12 ≤ R.locals; omega) (hK _ _ _ _ rfl L H locs cells slots lsC _ hn hx0 hW hS hc1 hc2 hl h8)
theorem g_max {i : Nat} (F : a_Fx p l R s mi args meth c bs aS m) (hle : σ.2.2.2.2.1 ≤ cE ∧ σ.2.2.2.2.2 ≤ sE) (hmc : mc ≤ R.cells) (hms : ms ≤ R.slots) (hrm : 1 ≤ m_fr m ∧ 40 ≤ m_lo m) (hls : ls.length = m_maxL m) (hi : i < 10000) (hcal : c_cal (m_own m) i = some 1002) (hd : decode (m_bytes m) pc = .ok (.invokestatic i, 3)) (hs : a_call 1002 pc 3 ls st σ = some q) (hK : ∀ pc1 ls1 st1 σ1, q = .inl (pc1, ls1, st1, σ1) → a_Gd p l e R s mi args below meth c Z D tA bs aS L0 n0 mc ms cE sE pc1 ls1 st1 σ1) : a_Gd p l e R s mi args below meth c Z D tA bs aS L0 n0 mc ms cE sE pc ls st σ := by
  unfold a_call at hs
  rw [if_neg (by omega), if_neg (by omega), if_neg (by omega), if_pos rfl] at hs
  obtain ⟨x, y, st1, est, h9⟩ := pII_some hs
  subst est
  clear hs
  obtain ⟨h0, hs⟩ := a_ite h9
  have hs := Option.some.inj hs
  subst hs
  intro L H locs cells slots lsC stC hn hx0 hW hS hc1 hc2 hl hst
  obtain ⟨wy, v1, ev, ey, h8⟩ := st_i hst
  subst ev
  obtain ⟨wx, v2, ev, ex, h7⟩ := st_i h8
  subst ev
  obtain ⟨hx, hb, hml, -, -, hown, hts, -, -, -, -, hfr, hlo⟩ := F
  have hC := c_cal_ok hcal
  simp only [c_ok, (k_div hi).1, (k_div hi).2] at hC
  have hlk : Jvm.Cond.methodLink (o_name (m_own m)) i Lib.Math.max.name ∈ w_all := by
    rcases hC with h | h | h | h | h
    · exact absurd h.1 (by omega)
    · exact absurd h.1 (by omega)
    · exact absurd h.1 (by omega)
    · exact h.2
    · exact absurd h.1 (by omega)
  have hsum := a_st_sum h7
  refine va_mmax hx hb (by rw [hml, ← hls]; exact hl.1.symm) hown (hts _ hlk) (hts _ w_maxs) (hts _ w_mi) (hts _ w_maxc) (by omega) (by omega) (by omega) (by omega) hd ?_
  refine hK _ _ _ _ rfl L H locs cells slots lsC _ hn hx0 hW hS hc1 hc2 hl ⟨rfl, ⟨_, rfl, ?_⟩, h7⟩
  rw [← ex, ← ey]
  split
  · rename_i h
    rw [Int32.lt_iff_toInt_lt] at h
    omega
  · rename_i h
    rw [Int32.lt_iff_toInt_lt] at h
    omega
theorem g_min {i : Nat} (F : a_Fx p l R s mi args meth c bs aS m) (hle : σ.2.2.2.2.1 ≤ cE ∧ σ.2.2.2.2.2 ≤ sE) (hmc : mc ≤ R.cells) (hms : ms ≤ R.slots) (hrm : 1 ≤ m_fr m ∧ 40 ≤ m_lo m) (hls : ls.length = m_maxL m) (hi : i < 10000) (hcal : c_cal (m_own m) i = some 1003) (hd : decode (m_bytes m) pc = .ok (.invokestatic i, 3)) (hs : a_call 1003 pc 3 ls st σ = some q) (hK : ∀ pc1 ls1 st1 σ1, q = .inl (pc1, ls1, st1, σ1) → a_Gd p l e R s mi args below meth c Z D tA bs aS L0 n0 mc ms cE sE pc1 ls1 st1 σ1) : a_Gd p l e R s mi args below meth c Z D tA bs aS L0 n0 mc ms cE sE pc ls st σ := by
  unfold a_call at hs
  rw [if_neg (by omega), if_neg (by omega), if_neg (by omega), if_neg (by omega), if_pos rfl] at hs
  obtain ⟨x, y, st1, est, h9⟩ := pII_some hs
  subst est
  clear hs
  obtain ⟨h0, hs⟩ := a_ite h9
  have hs := Option.some.inj hs
  subst hs
  intro L H locs cells slots lsC stC hn hx0 hW hS hc1 hc2 hl hst
  obtain ⟨wy, v1, ev, ey, h8⟩ := st_i hst
  subst ev
  obtain ⟨wx, v2, ev, ex, h7⟩ := st_i h8
  subst ev
  obtain ⟨hx, hb, hml, -, -, hown, hts, -, -, -, -, hfr, hlo⟩ := F
  have hC := c_cal_ok hcal
  simp only [c_ok, (k_div hi).1, (k_div hi).2] at hC
  have hlk : Jvm.Cond.methodLink (o_name (m_own m)) i Lib.Math.min.name ∈ w_all := by
    rcases hC with h | h | h | h | h
    · exact absurd h.1 (by omega)
    · exact absurd h.1 (by omega)
    · exact absurd h.1 (by omega)
    · exact absurd h.1 (by omega)
    · exact h.2
  have hsum := a_st_sum h7
  refine va_mmin hx hb (by rw [hml, ← hls]; exact hl.1.symm) hown (hts _ hlk) (hts _ w_mins) (hts _ w_mi) (hts _ w_minc) (by omega) (by omega) (by omega) (by omega) hd ?_
  refine hK _ _ _ _ rfl L H locs cells slots lsC _ hn hx0 hW hS hc1 hc2 hl ⟨rfl, ⟨_, rfl, ?_⟩, h7⟩
  rw [← ex, ← ey]
  split
  · rename_i h
    rw [Int32.lt_iff_toInt_lt] at h
    omega
  · rename_i h
    rw [Int32.lt_iff_toInt_lt] at h
    omega
theorem a_ev_i {L : Nat → Nat} {r : Nat} : (fun j => a_ev L σ 20 r j) = fun j => Value.int (Int32.ofInt (σ.2.1 r j)) := by
  funext j
  unfold a_ev
  rw [if_neg (by omega), if_neg (by omega), if_neg (by omega)]
theorem g_copy {i : Nat} (F : a_Fx p l R s mi args meth c bs aS m) (hrm : 1 ≤ m_fr m ∧ 40 ≤ m_lo m) (hls : ls.length = m_maxL m) (hi : i < 10000) (hcal : c_cal (m_own m) i = some 1001) (hd : decode (m_bytes m) pc = .ok (.invokestatic i, 3)) (hs : a_call 1001 pc 3 ls st σ = some q) (hK : ∀ pc1 ls1 st1 σ1, q = .inl (pc1, ls1, st1, σ1) → a_Gd p l e R s mi args below meth c Z D tA bs aS L0 n0 mc ms cE sE pc1 ls1 st1 σ1) : a_Gd p l e R s mi args below meth c Z D tA bs aS L0 n0 mc ms cE sE pc ls st σ := by
  unfold a_call at hs
  rw [if_neg (by omega), if_neg (by omega), if_pos rfl] at hs
  split at hs
  · rename_i n dp d sp r st1
    obtain ⟨⟨h0, hk0, hk1, h1, h2, h3, h4, h5⟩, hs⟩ := a_ite hs
    have hs := Option.some.inj hs
    subst hs
    intro L H locs cells slots lsC stC hn hx0 hW hS hc1 hc2 hl hst
    obtain ⟨wn, v1, ev, en, h9⟩ := st_i hst
    subst ev
    obtain ⟨wd, v2, ev, ed, h8⟩ := st_i h9
    subst ev
    obtain ⟨v3, ev, hq3, h7⟩ := st_r h8
    subst ev
    obtain ⟨ws, v4, ev, es, h6⟩ := st_i h7
    subst ev
    obtain ⟨v5, ev, hq5, h55⟩ := st_r h6
    subst ev
    subst en
    subst ed
    subst es
    obtain ⟨hx, hb, hml, -, -, hown, hts, -, -, -, -, hfr, hlo⟩ := F
    have hC := c_cal_ok hcal
    simp only [c_ok, (k_div hi).1, (k_div hi).2] at hC
    have hlk : Jvm.Cond.methodLink (o_name (m_own m)) i arraycopyName ∈ w_all := by
      rcases hC with h | h | h | h | h
      · exact absurd h.1 (by omega)
      · exact absurd h.1 (by omega)
      · exact h.2
      · exact absurd h.1 (by omega)
      · exact absurd h.1 (by omega)
    have hsum := a_st_sum h55
    obtain ⟨hK0, hA0, hb0, hc0, hj0, hf0, hz0, hn17, hg0, hr0, haS⟩ := id hW
    obtain ⟨b0, b1, b2, b3, b4, b5, b6⟩ := a_arrc hW (r := r) (by rw [hk0]; rfl)
    obtain ⟨d0, d1, d2, d3, d4, d5, d6⟩ := a_arrc hW (r := d) (by rw [hk1]; rfl)
    rw [a_null_pos b0, a_null_pos d0]
    rw [hk0, a_ev_i] at b3
    rw [hk1, a_ev_i] at d3
    have nn : ∀ z : Int32, 0 ≤ z.toInt → ¬ z < 0 ∧ z.toInt = (z.toNatClampNeg : Int) := fun z hz => ⟨fun h => by rw [Int32.lt_iff_toInt_lt, Int32.toInt_zero] at h; omega, by show z.toInt = ((z.toInt.toNat : Nat) : Int); omega⟩
    obtain ⟨g1, e1⟩ := nn ws h1
    obtain ⟨g2, e2⟩ := nn wd h2
    obtain ⟨g3, e3⟩ := nn wn h3
    intro T hT X
    obtain ⟨-, k0, hkk0, cm0, hkm0⟩ := (hA0 20 rfl).1 (σ.1 r).2 (fun j => .int (Int32.ofInt (σ.2.1 r j)))
    obtain ⟨-, k1, hkk1, cm1, hkm1⟩ := (hA0 20 rfl).1 (σ.1 d).2 (fun j => .int (Int32.ofInt (σ.2.1 d j)))
    obtain ⟨vm', X', step⟩ := X.arraycopy hx hown (hts _ hlk) (hts _ w_an) (hts _ w_as) (hts _ w_ai) (src := L r) (dst := L d) (cs := arrV (tA 20) (σ.1 r).2 (fun j => .int (Int32.ofInt (σ.2.1 r j)))) (cd := arrV (tA 20) (σ.1 d).2 (fun j => .int (Int32.ofInt (σ.2.1 d j)))) (srcPos := ws) (destPos := wd) (n := wn) (by rw [hT]; exact b3) (by rw [hT]; exact d3)
      (fun _ h => by cases h) (fun _ h => by cases h) (fun h => by cases h) (fun h => by cases h) hkk0 hkk1 hkm0 hkm1 (by simp [refKind, a_elem]) g1 g2 g3
      (by rw [arrV_size]; omega) (by rw [arrV_size]; omega)
      (fun vm₁ _ j hj => by
        have e : (arrV (tA 20) (σ.1 r).2 (fun j => Value.int (Int32.ofInt (σ.2.1 r j)))).slots.getD (ws.toNatClampNeg + j) .null = .int (Int32.ofInt (σ.2.1 r (ws.toNatClampNeg + j))) := by
          rw [Array.getD_eq_getD_getElem?, arrV_read _ _ (by omega)]
          rfl
        refine ⟨?_, ?_⟩
        · rw [e]
          rfl
        · rw [e]
          exact trivial)
      (g := F0 mi pc lsC (.int wn :: .int wd :: .ref (L d) :: .int ws :: .ref (L r) :: v5)) rfl (by rw [hml, ← hls]; exact hl.1) (rest := v5) rfl (by rw [hb]; exact hd) (by omega) (by
        have hw : nativeFrameWords "java/lang/System" "arraycopy" 5 + 11 ≤ 32 := by decide +kernel
        show 2 * 0 + (v5.map fun v => v.category).sum + (nativeFrameWords "java/lang/System" "arraycopy" 5 + 11) ≤ R.locals
        omega)
    have ec : copied (arrV (tA 20) (σ.1 r).2 (fun j => .int (Int32.ofInt (σ.2.1 r j)))) (arrV (tA 20) (σ.1 d).2 (fun j => .int (Int32.ofInt (σ.2.1 d j)))) ws wd wn = arrV (tA 20) (σ.1 d).2 (fun j => .int (va_cpy (fun j => Int32.ofInt (σ.2.1 r j)) (fun j => Int32.ofInt (σ.2.1 d j)) ws.toNatClampNeg wd.toNatClampNeg wn.toNatClampNeg j)) := va_copied (fun z => .int z) (tA 20) (tA 20) _ _ (by omega)
    rw [ec] at X' step
    have hl9 : L d < H.size := (Array.getElem?_eq_some_iff.mp d3).1
    generalize hcell : arrV (tA 20) (σ.1 d).2 (fun j => Value.int (va_cpy (fun j => Int32.ofInt (σ.2.1 r j)) (fun j => Int32.ofInt (σ.2.1 d j)) ws.toNatClampNeg wd.toNatClampNeg wn.toNatClampNeg j)) = cell9 at X' step
    have hheap : ((T.setVm vm').setCell (L d) cell9).heap = H.setIfInBounds (L d) cell9 := by rw [← hT]; rfl
    have oq : ∀ q : Nat, q ≠ L d → (H.setIfInBounds (L d) cell9)[q]? = H[q]? := fun q hq => by simp [Array.getElem?_setIfInBounds, Ne.symm hq]
    have od : (H.setIfInBounds (L d) cell9)[L d]? = some cell9 := by simp [Array.getElem?_setIfInBounds, hl9]
    have hW1 : a_W D tA bs aS L (σ.1, upr σ.2.1 d (a_cpy (σ.2.1 r) (σ.2.1 d) ws.toInt.toNat wd.toInt.toNat wn.toInt.toNat), σ.2.2.1, σ.2.2.2) s (H.setIfInBounds (L d) cell9) := by
      refine hW.put (r0 := d) (by omega) d6 rfl rfl (fun q hq => ⟨by funext j; simp [upr, hq], rfl⟩) (hg0 d) (fun j => ?_) ?_ (by simp) oq
      · show a_rg _ (upr σ.2.1 d (a_cpy (σ.2.1 r) (σ.2.1 d) ws.toInt.toNat wd.toInt.toNat wn.toInt.toNat) d j)
        unfold upr a_cpy
        rw [if_pos rfl]
        split
        · have := hr0 r (ws.toInt.toNat + (j - wd.toInt.toNat))
          rw [hk0] at this
          rw [hk1]
          exact this
        · exact hr0 d j
      · unfold a_cell
        rw [hk1, if_neg (by omega), if_neg (by omega), if_neg (by omega), if_neg (by omega)]
        refine ⟨rfl, d1, d2, ?_⟩
        rw [od, ← hcell, a_ev_i]
        congr 2
        funext j
        show Value.int _ = Value.int (Int32.ofInt (upr σ.2.1 d (a_cpy (σ.2.1 r) (σ.2.1 d) ws.toInt.toNat wd.toInt.toNat wn.toInt.toNat) d j))
        unfold upr a_cpy va_cpy
        rw [if_pos rfl]
        show Value.int (if wd.toInt.toNat ≤ j ∧ j < wd.toInt.toNat + wn.toInt.toNat then _ else _) = _
        split <;> rfl
    obtain ⟨t, a1, b1⟩ := hK _ _ _ _ rfl L _ _ cells slots lsC v5 hn hx0 hW1 ⟨by simp; exact hS.1, fun q g1 g2 => by
        rw [oq q (fun e => g2 (by rw [e]; exact d1))]
        exact hS.2.1 q g1 g2, fun q hq => by
        rcases List.mem_append.mp hq with h | h
        · exact hS.2.2 q h
        · obtain ⟨z, -, hz⟩ := List.mem_map.mp h
          rw [← hz]
          exact d1⟩ hc1 hc2 hl h55 _ hheap X'
    exact ⟨t, step t a1, b1⟩
  · cases hs
theorem g_static {i : Nat} (F : a_Fx p l R s mi args meth c bs aS m) (hi : i < 10000) (hd : decode (m_bytes m) pc = .ok (.getstatic i, 3)) (hs : a_step m pc (.getstatic i) 3 ls st σ = some q) (hK : ∀ pc1 ls1 st1 σ1, q = .inl (pc1, ls1, st1, σ1) → a_Gd p l e R s mi args below meth c Z D tA bs aS L0 n0 mc ms cE sE pc1 ls1 st1 σ1) : a_Gd p l e R s mi args below meth c Z D tA bs aS L0 n0 mc ms cE sE pc ls st σ := by
  simp only [a_step] at hs
  split at hs
  · rename_i a hc
    have hs := Option.some.inj hs
    subst hs
    intro L H locs cells slots lsC stC hn hx0 hW hS hc1 hc2 hl hst
    obtain ⟨hx, hb, hml, -, -, hown, hts, -, -, hZ, -, hfr, hlo⟩ := F
    obtain ⟨z1, z2, -⟩ := hZ.kept hS.2.1
    have hC := c_sta_ok hc
    simp only [s_ok, (k_div hi).1, (k_div hi).2] at hC
    have fin : ∀ (C n d : String) (v : Value) , va_Z C n d v (a_A bs) s H → Jvm.Cond.fieldLink (o_name (m_own m)) i C n d ∈ w_all → a_kn a = true → a_rl L σ.2.2.2.1 a v → W p l e R s mi args below meth c H locs cells slots Z (F0 mi pc lsC stC) := by
      intro C n d v hz hlk hk hr
      obtain ⟨cf, kf, fi, f, a9, cell, e1, e2, e3, e4, e5, e6, e7, -⟩ := hz
      exact W.gets hx hb hown (hts _ hlk) e1 e2 e3 e4 e5 (by intro h; rw [h] at e6; cases e6) e7 rfl hd (hK _ _ _ _ rfl L H locs cells slots lsC _ hn hx0 hW hS hc1 hc2 hl ⟨hk, hr, hst⟩)
    rcases hC with ⟨ea, hlk⟩ | ⟨ea, hlk⟩
    · have ea : a = a_i 1 := ea
      refine fin _ _ _ _ z1 hlk (by rw [ea]; rfl) ?_
      rw [ea]
      exact ⟨_, rfl, rfl⟩
    · have ea : a = a_x true := ea
      rcases z2 with z2 | ⟨t, z2⟩
      · refine fin _ _ _ _ z2 hlk (by rw [ea]; rfl) ?_
        rw [ea]
        exact ⟨none, rfl⟩
      · refine fin _ _ _ _ z2 hlk (by rw [ea]; rfl) ?_
        rw [ea]
        exact ⟨some t, rfl⟩
  · cases hs
theorem g_ldc {i : Nat} (F : a_Fx p l R s mi args meth c bs aS m) (hi : i < 10000) (hd : decode (m_bytes m) pc = .ok (.ldc i, 2)) (hs : a_step m pc (.ldc i) 2 ls st σ = some q) (hK : ∀ pc1 ls1 st1 σ1, q = .inl (pc1, ls1, st1, σ1) → a_Gd p l e R s mi args below meth c Z D tA bs aS L0 n0 mc ms cE sE pc1 ls1 st1 σ1) : a_Gd p l e R s mi args below meth c Z D tA bs aS L0 n0 mc ms cE sE pc ls st σ := by
  simp only [a_step] at hs
  split at hs
  · rename_i z hc
    have hs := Option.some.inj hs
    subst hs
    intro L H locs cells slots lsC stC hn hx0 hW hS hc1 hc2 hl hst
    obtain ⟨hx, hb, hml, -, -, hown, hts, -⟩ := F
    have hC := c_int_ok hc
    simp only [i_ok, (k_div hi).1, (k_div hi).2] at hC
    exact lv_ldc hx hb hown (hts _ hC.1) hd (hK _ _ _ _ rfl L H locs cells slots lsC _ hn hx0 hW hS hc1 hc2 hl ⟨rfl, ⟨_, rfl, hC.2⟩, hst⟩)
  · split at hs
    · rename_i q9 hc
      have hs := Option.some.inj hs
      subst hs
      intro L H locs cells slots lsC stC hn hx0 hW hS hc1 hc2 hl hst
      obtain ⟨hx, hb, hml, -, -, hown, hts, -, -, hZ, -⟩ := F
      have hmem : (m_own m * 10000 + i, q9) ∈ c_strL := a_lookup hc
      obtain ⟨tx, hR⟩ := hZ.2.2.2.2.1 _ hmem
      simp only [(k_div hi).1, (k_div hi).2] at hR
      have h1 := c_str_lt _ hmem
      have h2 : 0 < q9 ∧ q9 < 17 := h1
      obtain ⟨hK0, hA0, hb0, hc0, hj0, hf0, hz0, hn17, hg0, hr0, haS⟩ := id hW
      refine va_ldcS hx hb hown hR hd (hK _ _ _ _ rfl L H locs cells slots lsC _ hn hx0 hW hS hc1 hc2 hl ⟨rfl, ⟨by omega, ?_⟩, hst⟩)
      rw [a_null_pos (by omega), haS q9 h2.2]
    · cases hs
theorem g_ldcw {i : Nat} (F : a_Fx p l R s mi args meth c bs aS m) (hi : i < 10000) (hd : decode (m_bytes m) pc = .ok (.ldc_w i, 3)) (hs : a_step m pc (.ldc_w i) 3 ls st σ = some q) (hK : ∀ pc1 ls1 st1 σ1, q = .inl (pc1, ls1, st1, σ1) → a_Gd p l e R s mi args below meth c Z D tA bs aS L0 n0 mc ms cE sE pc1 ls1 st1 σ1) : a_Gd p l e R s mi args below meth c Z D tA bs aS L0 n0 mc ms cE sE pc ls st σ := by
  simp only [a_step] at hs
  split at hs
  · rename_i z hc
    have hs := Option.some.inj hs
    subst hs
    intro L H locs cells slots lsC stC hn hx0 hW hS hc1 hc2 hl hst
    obtain ⟨hx, hb, hml, -, -, hown, hts, -⟩ := F
    have hC := c_int_ok hc
    simp only [i_ok, (k_div hi).1, (k_div hi).2] at hC
    exact lv_ldcw hx hb hown (hts _ hC.1) hd (hK _ _ _ _ rfl L H locs cells slots lsC _ hn hx0 hW hS hc1 hc2 hl ⟨rfl, ⟨_, rfl, hC.2⟩, hst⟩)
  · cases hs
theorem g_ldc2 {i : Nat} (F : a_Fx p l R s mi args meth c bs aS m) (hi : i < 10000) (hd : decode (m_bytes m) pc = .ok (.ldc2_w i, 3)) (hs : a_step m pc (.ldc2_w i) 3 ls st σ = some q) (hK : ∀ pc1 ls1 st1 σ1, q = .inl (pc1, ls1, st1, σ1) → a_Gd p l e R s mi args below meth c Z D tA bs aS L0 n0 mc ms cE sE pc1 ls1 st1 σ1) : a_Gd p l e R s mi args below meth c Z D tA bs aS L0 n0 mc ms cE sE pc ls st σ := by
  simp only [a_step] at hs
  split at hs
  · rename_i z hc
    have hs := Option.some.inj hs
    subst hs
    intro L H locs cells slots lsC stC hn hx0 hW hS hc1 hc2 hl hst
    obtain ⟨hx, hb, hml, -, -, hown, hts, -⟩ := F
    have hC := c_long_ok hc
    simp only [l_ok, (k_div hi).1, (k_div hi).2] at hC
    exact lv_ldc2 hx hb hown (hts _ hC.1) hd (hK _ _ _ _ rfl L H locs cells slots lsC _ hn hx0 hW hS hc1 hc2 hl ⟨rfl, ⟨_, rfl, hC.2⟩, hst⟩)
  · cases hs
end SZ
