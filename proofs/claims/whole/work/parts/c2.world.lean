/-! ===== the world at the law's entry ===== -/
def u0 (L : Nat) (xs : Nat → Int32) : Nat → Nat → Int := fun q j => if q = 17 then (if j < L then (xs j).toInt else 0) else if q < 17 ∧ q % 2 = 0 ∧ 2 ≤ q then (c_txt.getD (q / 2 - 1) []).getD j 0 else 0
def L0w (b : Nat) (K V : Nat → Nat) : Nat → Nat := fun q => if q = 17 then b else if q % 2 = 1 then K (q / 2) else V (q / 2 - 1)
section WLD
variable {L : Nat} {xs : Nat → Int32}
theorem u0_Z : ∀ q, 18 ≤ q → u0 L xs q = fun _ => 0 := fun q hq => by
  funext j
  unfold u0
  rw [if_neg (by omega), if_neg (by omega)]
theorem u0_odd {q j : Nat} (h : q % 2 = 1) (h2 : q ≠ 17) : u0 L xs q j = 0 := by
  unfold u0
  rw [if_neg h2, if_neg (by omega)]
theorem u0_ev {i j : Nat} (hi : i < 8) : u0 L xs (2 * i + 2) j = (c_txt.getD i []).getD j 0 := by
  unfold u0
  rw [if_neg (by omega), if_pos (by omega), show (2 * i + 2) / 2 - 1 = i from by omega]
theorem txt_rg (i j : Nat) : 0 ≤ (c_txt.getD i []).getD j 0 ∧ (c_txt.getD i []).getD j 0 ≤ 255 := by
  have h : ∀ l ∈ c_txt, ∀ z ∈ l, 0 ≤ z ∧ z ≤ 255 := by decide
  have hl : c_txt.getD i [] ∈ c_txt ∨ c_txt.getD i [] = [] := by
    rw [List.getD_eq_getElem?_getD]
    cases e : c_txt[i]? with
    | none => exact .inr rfl
    | some l => exact .inl (List.mem_of_getElem? e)
  rcases hl with hl | hl
  · generalize c_txt.getD i [] = l at hl ⊢
    rw [List.getD_eq_getElem?_getD]
    cases e : l[j]? with
    | none => decide
    | some z => exact h l hl z (List.mem_of_getElem? e)
  · rw [hl, List.getD_eq_getElem?_getD, List.getElem?_nil]; decide
theorem i3_rg (x : Int32) : -2147483648 ≤ x.toInt ∧ x.toInt < 2147483648 := ⟨i3_ge x, i3_lt x⟩
theorem u0_i32 (q j : Nat) : i32 (u0 L xs q j) := by
  unfold u0 i32
  split
  · split
    · exact i3_rg _
    · decide
  · split
    · have := txt_rg (q / 2 - 1) j
      omega
    · decide
theorem u0_str : strOK (u0 L xs) := fun i hi => ⟨u0_odd (by omega) (by omega), fun j _ => u0_ev hi⟩
theorem gS_odd {i : Nat} (hi : i < 8) : gS (2 * i + 1) 0 = 2 * i + 2 := by
  have h : i = 0 ∨ i = 1 ∨ i = 2 ∨ i = 3 ∨ i = 4 ∨ i = 5 ∨ i = 6 ∨ i = 7 := by omega
  rcases h with rfl | rfl | rfl | rfl | rfl | rfl | rfl | rfl <;> rfl
theorem gS_lt (q j : Nat) : gS q j < 18 := by
  unfold gS
  by_cases h : q < 18
  · rw [if_pos h]
    have h4 : inR q = false := by
      simp only [inR, Bool.or_eq_false_iff, Bool.and_eq_false_iff, decide_eq_false_iff_not]
      omega
    rw [G, if_neg (by rw [h4]; decide), G1]
    by_cases h5 : q < 17
    · rw [if_pos h5]
      by_cases h6 : q % 2 = 1 ∧ j = 0
      · rw [if_pos h6]; omega
      · rw [if_neg h6]; decide
    · rw [if_neg h5, if_neg (by omega), if_neg (by omega), if_neg (by omega), if_neg (by omega), if_neg (by omega), if_neg (by omega), if_neg (by omega), if_neg (by omega)]
      decide
  · rw [if_neg h]; decide
theorem kP_st {q : Nat} (h : 1 ≤ q) (h2 : q < 17) : kP L 18 q = KSt q := by
  rw [kP_at (by omega), K0, if_neg (by omega), if_pos h2]
theorem kP_hi {q : Nat} (h : 18 ≤ q) : kP L 18 q = (0, 0) := if_neg (by omega)
def strO (i : Nat) : String := o_name ((c_strL.getD i (0, 0)).1 / 10000)
def strI (i : Nat) : Nat := (c_strL.getD i (0, 0)).1 % 10000
theorem st_all {b : Nat} {s : State} (hgv : (Jvm.Cond.and given_1 narrow_1).before #[Value.ref b] s = true) : ∃ K V : Nat → Nat, ∀ i, i < 8 → SOK b s (strO i) (strI i) (c_txt.getD i []) (K i) (V i) := by
  have h : ∀ i : Nat, ∃ q : Nat × Nat, i < 8 → SOK b s (strO i) (strI i) (c_txt.getD i []) q.1 q.2 := by
    intro i
    by_cases hi : i < 8
    · have h : i = 0 ∨ i = 1 ∨ i = 2 ∨ i = 3 ∨ i = 4 ∨ i = 5 ∨ i = 6 ∨ i = 7 := by omega
      rcases h with rfl | rfl | rfl | rfl | rfl | rfl | rfl | rfl
      · obtain ⟨x, y, h⟩ := st_0 hgv; exact ⟨(x, y), fun _ => h⟩
      · obtain ⟨x, y, h⟩ := st_1 hgv; exact ⟨(x, y), fun _ => h⟩
      · obtain ⟨x, y, h⟩ := st_2 hgv; exact ⟨(x, y), fun _ => h⟩
      · obtain ⟨x, y, h⟩ := st_3 hgv; exact ⟨(x, y), fun _ => h⟩
      · obtain ⟨x, y, h⟩ := st_4 hgv; exact ⟨(x, y), fun _ => h⟩
      · obtain ⟨x, y, h⟩ := st_5 hgv; exact ⟨(x, y), fun _ => h⟩
      · obtain ⟨x, y, h⟩ := st_6 hgv; exact ⟨(x, y), fun _ => h⟩
      · obtain ⟨x, y, h⟩ := st_7 hgv; exact ⟨(x, y), fun _ => h⟩
    · exact ⟨(0, 0), fun h => absurd h hi⟩
  obtain ⟨f, hf⟩ := Classical.axiomOfChoice h
  exact ⟨fun i => (f i).1, fun i => (f i).2, hf⟩
theorem kn_all {b : Nat} {s : State} (hts : ∀ w ∈ lw_tbl, w.before #[Value.ref b] s = true) : ∃ D : va_G, ∀ c, c < 11 → u_Kn s (k_name c) (k_T c) (k_size c) (D.1 c) (D.2 c) := by
  have ha : ∀ w ∈ w_all, w.before #[Value.ref b] s = true := fun w hw => hts w (List.mem_filter.mp hw).1
  have hi : ∀ c, c < 11 → Jvm.Cond.instantiable (k_name c) (k_size c) ∈ w_all := by
    intro c hc
    have h : c = 0 ∨ c = 1 ∨ c = 2 ∨ c = 3 ∨ c = 4 ∨ c = 5 ∨ c = 6 ∨ c = 7 ∨ c = 8 ∨ c = 9 ∨ c = 10 := by omega
    rcases h with rfl | rfl | rfl | rfl | rfl | rfl | rfl | rfl | rfl | rfl | rfl
    · exact v_n3.2.2.1
    · exact v_n7.2.2.1
    · exact v_n4.2.2.1
    · exact v_n8.2.2.1
    · exact v_n1.2.2.1
    · exact v_n5.2.2.1
    · exact v_n0.2.2.1
    · exact v_n9.2.2.1
    · exact v_n2.2.2.1
    · exact v_n13.2.2.1
    · exact v_n17.2.2.1
  have h : ∀ c : Nat, ∃ q : ClassId × (Nat → Nat), c < 11 → u_Kn s (k_name c) (k_T c) (k_size c) q.1 q.2 := by
    intro c
    by_cases hc : c < 11
    · obtain ⟨cC, iS, h⟩ := u_known (C := k_name c) (T := k_T c) (N := k_size c) (n := k_size c) ha (k_ws c hc) (ha _ (hi c hc))
      exact ⟨(cC, iS), fun _ => h⟩
    · exact ⟨(0, fun _ => 0), fun h => absurd h hc⟩
  obtain ⟨f, hf⟩ := Classical.axiomOfChoice h
  exact ⟨(fun c => (f c).1, fun c => (f c).2), hf⟩
theorem arr_p {b : Nat} {s : State} {ty : FieldType} (hp : ∀ C, ty ≠ .object C) (h : (Cond.arrayClass ty).before #[Value.ref b] s = true) : ∃ cA : ClassId, ArrOfT s cA ty ∧ va_RA s cA ty := by
  obtain ⟨c, k, comp, h1, h2, h3⟩ := Cond.arrayClass_spec h
  refine ⟨c, fun n z => ⟨fun k h => (by cases h), k, h2, comp, h3⟩, ?_⟩
  cases ty with
  | object C => exact absurd rfl (hp C)
  | _ => exact h1
theorem arr_o {b : Nat} {s : State} {C : String} (h : (Cond.arrayOver (.object C)).before #[Value.ref b] s = true) : ∃ cA : ClassId, ArrOfT s cA (.object C) ∧ va_RA s cA (.object C) := by
  obtain ⟨comp, c, k, h1, h2, h3, h4, h5⟩ := Cond.arrayOver_spec h
  exact ⟨c, fun n z => ⟨fun k h => (by cases h), k, h3, comp, h4⟩, k, comp, h3, h4, h1, h5⟩
theorem ar_all {b : Nat} {s : State} (hts : ∀ w ∈ lw_tbl, w.before #[Value.ref b] s = true) : ∃ tA : Nat → ClassId, ∀ k, a_arr k = true → ArrOfT s (tA k) (a_elem k) ∧ va_RA s (tA k) (a_elem k) := by
  have ha : ∀ w ∈ w_all, w.before #[Value.ref b] s = true := fun w hw => hts w (List.mem_filter.mp hw).1
  have htb : ∀ w ∈ tables_1, w.before #[Value.ref b] s = true := fun w hw => hts w (List.mem_append_right _ hw)
  have h : ∀ k : Nat, ∃ cA : ClassId, a_arr k = true → ArrOfT s cA (a_elem k) ∧ va_RA s cA (a_elem k) := by
    intro k
    by_cases hk : a_arr k = true
    · have hk2 := hk
      simp only [a_arr, Bool.or_eq_true, decide_eq_true_eq] at hk2
      rcases hk2 with ((((((rfl | rfl) | rfl) | rfl) | rfl) | rfl) | rfl)
      · obtain ⟨cA, h⟩ := arr_p (ty := .int) (fun C h => by cases h) (ha _ w_na_int); exact ⟨cA, fun _ => h⟩
      · obtain ⟨cA, h⟩ := arr_p (ty := .boolean) (fun C h => by cases h) (ha _ w_na_boolean); exact ⟨cA, fun _ => h⟩
      · obtain ⟨cA, h⟩ := arr_p (ty := .long) (fun C h => by cases h) (ha _ w_na_long); exact ⟨cA, fun _ => h⟩
      · obtain ⟨cA, h⟩ := arr_p (ty := .double) (fun C h => by cases h) (ha _ w_na_double); exact ⟨cA, fun _ => h⟩
      · obtain ⟨cA, h⟩ := arr_o (htb _ wt_oListener); exact ⟨cA, fun _ => h⟩
      · obtain ⟨cA, h⟩ := arr_o (htb _ wt_oRadio); exact ⟨cA, fun _ => h⟩
      · obtain ⟨cA, h⟩ := arr_o (htb _ wt_oSignal); exact ⟨cA, fun _ => h⟩
    · exact ⟨0, fun h => absurd h hk⟩
  exact Classical.axiomOfChoice h
theorem z_all {b : Nat} {s : State} {K V : Nat → Nat} (hts : ∀ w ∈ lw_tbl, w.before #[Value.ref b] s = true) (hgv : (Jvm.Cond.and given_1 narrow_1).before #[Value.ref b] s = true) (hS : ∀ i, i < 8 → SOK b s (strO i) (strI i) (c_txt.getD i []) (K i) (V i)) : a_Z s.heap.size (L0w b K V) s s.heap := by
  have htb : ∀ w ∈ tables_1, w.before #[Value.ref b] s = true := fun w hw => hts w (List.mem_append_right _ hw)
  have hs := flat_of_before _ hgv
  have g0 : (Cond.eq (.static "java/lang/String" "COMPACT_STRINGS" "Z") (.int 1)).before #[Value.ref b] s = true := hs _ (by decide +kernel)
  have g1 : (Cond.isRef (.static "jdk/internal/util/Preconditions" "SIOOBE_FORMATTER" "Ljava/util/function/BiFunction;")).before #[Value.ref b] s = true := hs _ (by decide +kernel)
  have g2 : (Cond.isRef (.static "java/lang/Throwable" "UNASSIGNED_STACK" "[Ljava/lang/StackTraceElement;")).before #[Value.ref b] s = true := hs _ (by decide +kernel)
  have g3 : (Cond.isRef (.static "java/lang/Throwable" "SUPPRESSED_SENTINEL" "Ljava/util/List;")).before #[Value.ref b] s = true := hs _ (by decide +kernel)
  have n12 : (Cond.not (.castable "java/lang/IllegalStateException" "java/lang/IndexOutOfBoundsException")).before #[Value.ref b] s = true := hs _ (by decide +kernel)
  have n13 : (Cond.not (.castable "java/lang/IllegalStateException" "java/lang/IllegalArgumentException")).before #[Value.ref b] s = true := hs _ (by decide +kernel)
  have n21 : (Cond.not (.castable "java/lang/IndexOutOfBoundsException" "java/lang/IllegalStateException")).before #[Value.ref b] s = true := hs _ (by decide +kernel)
  have n23 : (Cond.not (.castable "java/lang/IndexOutOfBoundsException" "java/lang/IllegalArgumentException")).before #[Value.ref b] s = true := hs _ (by decide +kernel)
  have n31 : (Cond.not (.castable "java/lang/IllegalArgumentException" "java/lang/IllegalStateException")).before #[Value.ref b] s = true := hs _ (by decide +kernel)
  have n32 : (Cond.not (.castable "java/lang/IllegalArgumentException" "java/lang/IndexOutOfBoundsException")).before #[Value.ref b] s = true := hs _ (by decide +kernel)
  refine ⟨va_Zof (htb _ wt_l0) (htb _ wt_i0) (va_eqt g0) not_aA, va_Zqof (htb _ wt_l1) (htb _ wt_i1) g1 not_aA, vx_Zqof (htb _ wt_l2) (htb _ wt_i2) g2 not_aA, vx_Zqof (htb _ wt_l3) (htb _ wt_i3) g3 not_aA, ?_, ?_, ?_, ?_, ?_⟩
  · exact List.forall_mem_cons.mpr ⟨⟨_, vk_R.of (A := #[Value.ref b]) (htb _ wt_s0) (hS 0 (by decide)).1⟩, List.forall_mem_cons.mpr ⟨⟨_, vk_R.of (A := #[Value.ref b]) (htb _ wt_s1) (hS 1 (by decide)).1⟩, List.forall_mem_cons.mpr ⟨⟨_, vk_R.of (A := #[Value.ref b]) (htb _ wt_s2) (hS 2 (by decide)).1⟩, List.forall_mem_cons.mpr ⟨⟨_, vk_R.of (A := #[Value.ref b]) (htb _ wt_s3) (hS 3 (by decide)).1⟩, List.forall_mem_cons.mpr ⟨⟨_, vk_R.of (A := #[Value.ref b]) (htb _ wt_s4) (hS 4 (by decide)).1⟩, List.forall_mem_cons.mpr ⟨⟨_, vk_R.of (A := #[Value.ref b]) (htb _ wt_s5) (hS 5 (by decide)).1⟩, List.forall_mem_cons.mpr ⟨⟨_, vk_R.of (A := #[Value.ref b]) (htb _ wt_s6) (hS 6 (by decide)).1⟩, List.forall_mem_cons.mpr ⟨⟨_, vk_R.of (A := #[Value.ref b]) (htb _ wt_s7) (hS 7 (by decide)).1⟩, fun _ h => absurd h List.not_mem_nil⟩⟩⟩⟩⟩⟩⟩⟩
  · exact List.forall_mem_cons.mpr ⟨sx_69 htb hgv, List.forall_mem_cons.mpr ⟨sx_80 htb hgv, List.forall_mem_cons.mpr ⟨sx_412 htb hgv, List.forall_mem_cons.mpr ⟨sx_155 htb hgv, List.forall_mem_cons.mpr ⟨sx_414 htb hgv, List.forall_mem_cons.mpr ⟨sx_416 htb hgv, List.forall_mem_cons.mpr ⟨sx_420 htb hgv, List.forall_mem_cons.mpr ⟨sx_178 htb hgv, List.forall_mem_cons.mpr ⟨sx_204 htb hgv, List.forall_mem_cons.mpr ⟨sx_422 htb hgv, List.forall_mem_cons.mpr ⟨sx_351 htb hgv, List.forall_mem_cons.mpr ⟨sx_424 htb hgv, List.forall_mem_cons.mpr ⟨sx_429 htb hgv, List.forall_mem_cons.mpr ⟨sx_384 htb hgv, List.forall_mem_cons.mpr ⟨sx_389 htb hgv, List.forall_mem_cons.mpr ⟨sx_401 htb hgv, List.forall_mem_cons.mpr ⟨sx_418 htb hgv, List.forall_mem_cons.mpr ⟨sx_410 htb hgv, fun _ h => absurd h List.not_mem_nil⟩⟩⟩⟩⟩⟩⟩⟩⟩⟩⟩⟩⟩⟩⟩⟩⟩⟩
  · intro w hw
    rcases x_B_form w hw with ⟨C, T, rfl⟩ | ⟨y, rfl⟩ | ⟨a, c, y, d, rfl⟩
    · exact va_Nw.of rfl (htb _ (x_B_tab _ hw))
    · exact va_Nw.of rfl (htb _ (x_B_tab _ hw))
    · exact va_Nw.of rfl (htb _ (x_B_tab _ hw))
  · exact List.forall_mem_cons.mpr ⟨va_AO.of (htb _ wt_oSignal), List.forall_mem_cons.mpr ⟨va_AO.of (htb _ wt_oListener), List.forall_mem_cons.mpr ⟨va_AO.of (htb _ wt_oRadio), fun _ h => absurd h List.not_mem_nil⟩⟩⟩
  · exact List.forall_mem_cons.mpr ⟨va_Nc.of n12, List.forall_mem_cons.mpr ⟨va_Nc.of n13, List.forall_mem_cons.mpr ⟨va_Nc.of n21, List.forall_mem_cons.mpr ⟨va_Nc.of n23, List.forall_mem_cons.mpr ⟨va_Nc.of n31, List.forall_mem_cons.mpr ⟨va_Nc.of n32, fun _ h => absurd h List.not_mem_nil⟩⟩⟩⟩⟩⟩
theorem w_all0 {b : Nat} {s : State} {K V : Nat → Nat} {D : va_G} {tA : Nat → ClassId} (hL : L ≤ 3584) (hbl : b < s.heap.size) (hX : va_X b L xs s s.heap) (hS : ∀ i, i < 8 → SOK b s (strO i) (strI i) (c_txt.getD i []) (K i) (V i)) (hD : ∀ c, c < 11 → u_Kn s (k_name c) (k_T c) (k_size c) (D.1 c) (D.2 c)) (hA : ∀ k, a_arr k = true → ArrOfT s (tA k) (a_elem k) ∧ va_RA s (tA k) (a_elem k)) : a_W D tA s.heap.size (L0w b K V) (L0w b K V) (kP L 18, u0 L xs, gS, (18, 0, 0)) s s.heap := by
  refine ⟨⟨fun c q hq => ?_, fun k q hq => ?_⟩, hA, Nat.le_refl _, fun r hr => ?_, fun r q hr => ?_, fun r hr => ?_, rfl, (show (17 : Nat) ≤ 18 by decide), gS_lt, fun r j => ?_, fun _ _ => rfl⟩
  · match c, hq with
    | 0, hq => cases hq; exact hD 0 (by decide)
    | 1, hq => cases hq; exact hD 1 (by decide)
    | 2, hq => cases hq; exact hD 2 (by decide)
    | 3, hq => cases hq; exact hD 3 (by decide)
    | 4, hq => cases hq; exact hD 4 (by decide)
    | 5, hq => cases hq; exact hD 5 (by decide)
    | 6, hq => cases hq; exact hD 6 (by decide)
    | 7, hq => cases hq; exact hD 7 (by decide)
    | 8, hq => cases hq; exact hD 8 (by decide)
    | 9, hq => cases hq; exact hD 9 (by decide)
    | 10, hq => cases hq; exact hD 10 (by decide)
    | n + 11, hq => cases hq
  · cases hq
  · have hr18 : r < 18 := by
      by_cases h : r < 18
      · exact h
      · exact absurd (show (kP L 18 r).1 = 0 by rw [kP_hi (by omega)]) hr
    by_cases h17 : r = 17
    · subst h17
      have hk : kP L 18 17 = (24, L) := rfl
      unfold a_cell
      simp only [hk]
      rw [if_neg (by decide), if_pos (by decide)]
      obtain ⟨scr, x1, x2, x3, x4, x5⟩ := hX
      have hb : L0w b K V 17 = b := rfl
      rw [hb]
      refine ⟨Nat.not_le.mpr hbl, by omega, scr, x1, x2, x3, x4, fun j hj => ?_⟩
      rw [x5 j hj]
      have e : u0 L xs 17 j = (xs j).toInt := by
        show (if j < L then (xs j).toInt else 0) = _
        rw [if_pos hj]
      rw [e, i3_to]
    by_cases h0 : r = 0
    · subst h0
      exact absurd rfl hr
    have hk := kP_st (L := L) (q := r) (by omega) (by omega)
    by_cases h2 : r % 2 = 1
    · obtain ⟨i, rfl⟩ : ∃ i, r = 2 * i + 1 := ⟨r / 2, by omega⟩
      rw [KSt, if_pos h2] at hk
      obtain ⟨s1, s2, s3, s4, s5⟩ := hS i (by omega)
      have hg := gS_odd (i := i) (by omega)
      have e1 : L0w b K V (2 * i + 1) = K i := by unfold L0w; rw [if_neg (by omega), if_pos (by omega), show (2 * i + 1) / 2 = i from by omega]
      have e2 : L0w b K V (2 * i + 2) = V i := by unfold L0w; rw [if_neg (by omega), if_neg (by omega), show (2 * i + 2) / 2 - 1 = i from by omega]
      unfold a_cell
      simp only [hk, hg, e1, e2]
      rw [if_neg (by decide), if_neg (by decide), if_pos (by decide)]
      exact ⟨s2, s3, s4, u0_odd (by omega) (by omega), by omega⟩
    · obtain ⟨i, rfl⟩ : ∃ i, r = 2 * i + 2 := ⟨r / 2 - 1, by omega⟩
      rw [KSt, if_neg (by omega), show (2 * i + 2 - 2) / 2 = i from by omega] at hk
      obtain ⟨s1, s2, s3, s4, s5⟩ := hS i (by omega)
      have e2 : L0w b K V (2 * i + 2) = V i := by unfold L0w; rw [if_neg (by omega), if_neg (by omega), show (2 * i + 2) / 2 - 1 = i from by omega]
      have hl : (c_txt.getD i []).length ≤ 5 := by
        have h : ∀ i, i < 8 → (c_txt.getD i []).length ≤ 5 := by decide
        exact h i (by omega)
      have ef : (fun j => Value.int (Int32.ofInt (u0 L xs (2 * i + 2) j))) = (fun j => Value.int (Int32.ofInt ((c_txt.getD i []).getD j 0))) := by
        funext j
        rw [u0_ev (by omega)]
      unfold a_cell
      simp only [hk, e2, ef]
      rw [if_neg (by decide), if_neg (by decide), if_neg (by decide), if_pos (by decide)]
      exact ⟨by omega, s5⟩
  · exfalso
    by_cases h : r < 18
    · by_cases h17 : r = 17
      · subst h17
        have hk : kP L 18 17 = (24, L) := rfl
        simp only [hk] at hr
        exact absurd hr (by decide)
      · by_cases h0 : r = 0
        · subst h0
          have hk : kP L 18 0 = (0, 0) := rfl
          simp only [hk] at hr
          exact absurd hr (by decide)
        · have hk := kP_st (L := L) (q := r) (by omega) (by omega)
          rw [KSt] at hk
          simp only [hk] at hr
          split at hr
          · exact absurd hr (by decide)
          · have hz : a_wr 26 = true := hr
            exact absurd hz (by decide)
    · simp only [kP_hi (L := L) (show 18 ≤ r by omega)] at hr
      exact absurd hr (by decide)
  · show (kP L 18 r).1 = 0
    rw [kP_hi hr]
  · have hi := u0_i32 (L := L) (xs := xs) r j
    have h22 : (kP L 18 r).1 ≠ 22 ∧ (kP L 18 r).1 ≠ 23 := by
      by_cases h : r < 18
      · by_cases h17 : r = 17
        · subst h17; exact ⟨show ¬ 24 = 22 by decide, show ¬ 24 = 23 by decide⟩
        · by_cases h0 : r = 0
          · subst h0; exact ⟨show ¬ 0 = 22 by decide, show ¬ 0 = 23 by decide⟩
          · rw [kP_st (L := L) (q := r) (by omega) (by omega), KSt]
            split
            · decide
            · exact ⟨show ¬ 26 = 22 by decide, show ¬ 26 = 23 by decide⟩
      · rw [kP_hi (by omega)]; decide
    show a_rg (kP L 18 r).1 (u0 L xs r j)
    unfold a_rg
    rw [if_neg h22.1, if_neg h22.2]
    exact i3_of hi.1 hi.2
/-- THE LAW'S BODY FROM ITS ENTRY -/
theorem whole_start0 {p : Program} {e : Env} {s : State} {m : MethodId} {below : List Frame} {meth : Method} {c : Code} (l : Launch) (hfl : l.stackTraces = false) {b : Nat} (hL : L ≤ 3584) (C0 : lw_At p s m meth c b L xs) : W p l e room_1 s m #[Value.ref b] below meth c s.heap [] 0 0 (lw_Z below #[Value.ref b] s) (entryFrame m ([Value.ref b] : List Value).toArray 9) := by
  obtain ⟨hx, hb, hrt, hml, hown, hts, hX, hbl, hlk, hgv, htab⟩ := id C0
  obtain ⟨K, V, hS⟩ := st_all hgv
  obtain ⟨D, hD⟩ := kn_all hts
  obtain ⟨tA, hA⟩ := ar_all hts
  obtain ⟨n, σ1, hr, h1, h2⟩ := law_run (L := L) (u := u0 L xs) hL u0_Z u0_str (u0_i32 17)
  exact whole_red l hfl C0 hr (by show σ1.2.2.2.2.1 ≤ 601024 + 0; omega) (by show σ1.2.2.2.2.2 ≤ 7293034 + 0; omega) (w_all0 hL hbl hX hS hD hA) (z_all hts hgv hS) (show 17 < 18 by decide) rfl
end WLD
