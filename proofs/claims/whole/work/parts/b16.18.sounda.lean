/-! ===== throw new ===== -/
theorem x_fit : ∀ x, 1 ≤ x → x ≤ 3 → Bundle.fit (x_name x) = true := fun x h1 h2 => match x, h1, h2 with
  | 1, _, _ => by decide +kernel
  | 2, _, _ => by decide +kernel
  | 3, _, _ => by decide +kernel
theorem x_fitS : ∀ n ∈ x_sup, Bundle.fit n = true := by decide +kernel
theorem x_at : ∀ x, 1 ≤ x → x ≤ 3 → (∀ w ∈ (vx_atS RX10 (x_ic x) (x_name x) x_sup).filter goodWord, w ∈ w_all) ∧ (∀ w ∈ (vx_atS RX10 (x_ic x) (x_name x) x_sup).filter (fun w => !goodWord w), w ∈ x_B) ∧ ∀ ik, ∀ w ∈ Jvm.Cond.classLink RX10 ik (x_name x) :: Jvm.Cond.initialized (x_name x) :: vx_atS RX10 (x_ic x) (x_name x) x_sup, vx_ot w = true := fun x h1 h2 => match x, h1, h2 with
  | 1, _, _ => ⟨x_at_1, x_an_1, x_ao_1⟩
  | 2, _, _ => ⟨x_at_2, x_an_2, x_ao_2⟩
  | 3, _, _ => ⟨x_at_3, x_an_3, x_ao_3⟩
theorem x_B_on : ∀ w ∈ x_B, w.onTables = true := fun w hw => by
  rcases x_B_form w hw with ⟨C, T, rfl⟩ | ⟨y, rfl⟩ | ⟨a, b, y, d, rfl⟩ <;> rfl
section SR9
variable {p : Program} {l : Launch} {e : Env} {R : Room} {s : State} {mi : MethodId} {args : Array Value} {below : List Frame} {meth : Method} {c : Code} {D : va_G} {tA : Nat → ClassId} {bs : Nat} {aS L0 : Nat → Nat} {n0 mc ms : Nat} {m pc : Nat} {ls st : List AV} {σ : AS} {q : SR}
theorem g_thr {n x : Nat} (F : a_Fx p l R s mi args meth c bs aS m) (hmc : mc ≤ R.cells) (hms : ms ≤ R.slots) (hls : ls.length = m_maxL m) (hc : a_code m pc = some (.new n, 3)) (hcn : c_new (m_own m) n = some (.inr x)) (h0 : a_sum st ≤ 8 ∧ m_tabl m = false) : a_Gd p l e R s mi args below meth c (vx_MQ below (a_Qc D tA bs aS L0 n0 (.inr x) (a_thr σ)) (a_XC D tA bs aS L0 n0 (.inr x) (a_thr σ)) args s mc ms (a_A bs)) D tA bs aS L0 n0 mc ms (a_thr σ).2.2.2.2.1 (a_thr σ).2.2.2.2.2 pc ls st σ := by
  obtain ⟨hd, ho⟩ := a_code_dec hc
  obtain ⟨hj, hj2⟩ := a_codeJ hc
  simp only [a_okJ, Bool.and_eq_true, decide_eq_true_eq] at hj
  have hi := hj.1
  have hrm := hj.2
  rw [hcn] at hrm
  simp only [Bool.and_eq_true, decide_eq_true_eq] at hrm
  simp only [a_okX, hcn, Bool.and_eq_true, decide_eq_true_eq] at hj2
  obtain ⟨⟨⟨ho9, hx1⟩, hx3⟩, hcode⟩ := hj2
  have hhh := a_tab_hh (a_code_lt hc) h0.2
  have hN := c_new_ok hcn
  simp only [n_ok, (k_div hi).1, (k_div hi).2] at hN
  have eo : o_name (m_own m) = RX10 := by rw [ho9]; rfl
  intro L H locs cells slots lsC stC hn hx0 hW hS hc1 hc2 hl hst
  obtain ⟨hx, hb, hml, hrt, hlk, hown, hts, hin, htab, hZ, hfl, hfr, hlo⟩ := F
  have hZ9 := hZ
  obtain ⟨z1, z2, z3, z4, z5, z6, z7, z8, z9⟩ := hZ
  rw [eo] at hown hN
  have hat := x_at x hx1 hx3
  have hat2 : ∀ w ∈ vx_atS RX10 (x_ic x) (x_name x) x_sup, w.before args s = true := vx_hat (fun w hw => hts w (hat.1 w hw)) hat.2.1 (fun w hw => va_Nw.use (x_B_on w hw) (z7 w hw))
  have hout : ∀ k, ∀ y ∈ c.exceptionTable.toList, covers y k = false := fun k y hy => by
    rw [htab, hhh] at hy
    cases hy
  have hsum : (stC.map fun v => v.category).sum ≤ 8 := by rw [a_st_sum hst]; exact h0.1
  have hcc : cells + (σ.2.2.2.2.1 + 1) ≤ mc + σ.2.2.2.2.1 := hc1
  have hcs : slots + (σ.2.2.2.2.2 + 6) ≤ ms + σ.2.2.2.2.2 := hc2
  have hXC : ∀ t : State, s.vm.Alike t.vm → H.size ≤ t.heap.size → (∀ q : Nat, q < H.size → t.heap[q]? = H[q]?) → a_XC D tA bs aS L0 n0 (.inr x) (a_thr σ) (x_name x) s t := fun t e1 e2 e3 =>
    ⟨x, L, rfl, hx1, hx3, rfl, hx0, (hW.grow (σ1 := a_thr σ) rfl rfl rfl rfl e2 e3).moved e1, Nat.le_trans hS.1 e2, fun q q1 q2 => (e3 q (Nat.lt_of_lt_of_le q1 hS.1)).trans (hS.2.1 q q1 q2)⟩
  have hsz : lsC.size = c.maxLocals := by rw [hml, ← hls]; exact hl.1
  split at hcode
  · rename_i is h3 h4
    simp only [Bool.and_eq_true, decide_eq_true_eq] at hcode
    obtain ⟨⟨hlook, h6⟩, h9⟩ := hcode
    obtain ⟨tx, htx⟩ := Option.isSome_iff_exists.mp hlook
    obtain ⟨sa, hR⟩ := z6 _ (a_lookup htx)
    exact vx_throwS (text := tx) (sa := sa) (names := x_sup) (A := a_A bs) hx hb hfl hown (x_fit x hx1 hx3) x_fitS (hts _ hN.1) (hts _ hN.2) hR hat2 (hat.2.2 n) z3 z4 hS hsz hd (a_code_dec h3).1 (a_code_dec h4).1 (a_code_dec h6).1 (a_code_dec h9).1 (hout _)
      (by show 2 + 3 < R.frames; omega) (by show _ + (13 * (2 + 1) + 43) ≤ R.locals; omega) (by omega) (by omega) hlk hXC hS.2.2 (by omega) (by omega)
  · rename_i is h3 h4
    simp only [Bool.and_eq_true, decide_eq_true_eq] at hcode
    obtain ⟨⟨hlook, h6⟩, h9⟩ := hcode
    obtain ⟨tx, htx⟩ := Option.isSome_iff_exists.mp hlook
    obtain ⟨sa, hR⟩ := z6 _ (a_lookup htx)
    exact vx_throwSW (text := tx) (sa := sa) (names := x_sup) (A := a_A bs) hx hb hfl hown (x_fit x hx1 hx3) x_fitS (hts _ hN.1) (hts _ hN.2) hR hat2 (hat.2.2 n) z3 z4 hS hsz hd (a_code_dec h3).1 (a_code_dec h4).1 (a_code_dec h6).1 (a_code_dec h9).1 (hout _)
      (by show 2 + 3 < R.frames; omega) (by show _ + (13 * (2 + 1) + 43) ≤ R.locals; omega) (by omega) (by omega) hlk hXC hS.2.2 (by omega) (by omega)
  · cases hcode
end SR9
