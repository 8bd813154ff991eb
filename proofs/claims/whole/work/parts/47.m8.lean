/-! ===== the reference: what ends on the air; many ticks; what would be ===== -/
def hi0 (s : Nat → Int) : Prop := ∀ j, 3280 ≤ j → s j = 0
def bStill (n : Nat) (time : Int) (b : Nat → Int) : Int := bitW n 0 0 fun l => decide (time < b (5 + l).toNat)
theorem bitW_congr {p q : Int → Bool} : ∀ (d : Nat) (x acc : Int), (∀ i, x ≤ i → i < x + d → p i = q i) → bitW d x acc p = bitW d x acc q := by
  intro d
  induction d with
  | zero => intro x acc _; rfl
  | succ d ih =>
    intro x acc h
    simp only [bitW]
    rw [h x (Int.le_refl _) (by omega)]
    exact ih _ _ fun i h1 h2 => h i (by omega) (by omega)
theorem sumW_congr {p q : Int → Int} : ∀ (d : Nat) (x acc : Int), (∀ i, x ≤ i → i < x + d → p i = q i) → sumW d x acc p = sumW d x acc q := by
  intro d
  induction d with
  | zero => intro x acc _; rfl
  | succ d ih =>
    intro x acc h
    simp only [sumW]
    rw [h x (Int.le_refl _) (by omega)]
    exact ih _ _ fun i h1 h2 => h i (by omega) (by omega)
theorem still_blk {s : Nat → Int} {i : Nat} (h3 : 0 ≤ s 3 ∧ s 3 ≤ 6) : mStill s (i : Int) = bStill (s 3).toNat (s 1) (blk s i) := by
  unfold mStill bStill
  refine bitW_congr _ _ _ fun l h1 h2 => ?_
  rw [mAi_blk (by omega) (by omega), Int.toNat_natCast]
theorem cl1_lo {s : Nat → Int} {i j : Nat} (h : j < 1150) (h4 : j ≠ 4) : mCl1 s i j = s j := by
  simp only [mCl1]; rw [if_neg h4, if_neg (by omega)]
theorem cl1_4 {s : Nat → Int} {i : Nat} : mCl1 s i 4 = s 4 - 1 := by simp [mCl1]
theorem cl1_blk {s : Nat → Int} {i j : Nat} (hj : (j : Int) < s 4 - 1) : blk (mCl1 s i) j = if j < i then blk s j else blk s (j + 1) := by
  funext c
  by_cases hc : c < 71
  · rw [blk_at hc]
    simp only [mCl1]
    rw [if_neg (by omega)]
    by_cases h : j < i
    · rw [if_neg (by omega), if_pos h, blk_at hc]
    · rw [if_pos (by omega), if_neg h, blk_at hc]; congr 1; omega
  · have h1 : blk (mCl1 s i) j c = 0 := by simp [blk, hc]
    rw [h1]
    by_cases h : j < i
    · rw [if_pos h]; simp [blk, hc]
    · rw [if_neg h]; simp [blk, hc]
theorem airL_cl1 {s : Nat → Int} {i : Nat} (hi : (i : Int) < s 4) : airL (mCl1 s i) = (airL s).eraseIdx i := by
  refine List.ext_getElem ?_ fun j h1 h2 => ?_
  · rw [airL_len, List.length_eraseIdx, airL_len, cl1_4, if_pos (by omega)]; omega
  · rw [airL_get, List.getElem_eraseIdx]
    rw [airL_len, cl1_4] at h1
    rw [cl1_blk (by omega)]
    split
    · rw [airL_get]
    · rw [airL_get]
theorem clD_lo : ∀ (i : Nat) (s : Nat → Int) {j : Nat}, j < 1150 → j ≠ 4 → mClD i s j = s j := by
  intro i
  induction i with
  | zero => intro s j _ _; rfl
  | succ i ih =>
    intro s j h h4
    rw [mClD, ih _ h h4]
    split
    · exact cl1_lo h h4
    · rfl
theorem take_erase {α : Type} {l : List α} {i : Nat} : (l.eraseIdx i).take i = l.take i := by
  rw [List.eraseIdx_eq_take_drop_succ, List.take_append, List.take_take, Nat.min_self, List.length_take]
  by_cases h : i ≤ l.length
  · rw [Nat.min_eq_left h, Nat.sub_self, List.take_zero, List.append_nil]
  · rw [List.drop_eq_nil_of_le (by omega), List.take_nil, List.append_nil]
theorem airL_clD {n : Nat} {time : Int} : ∀ (i : Nat) (s : Nat → Int), (i : Int) ≤ s 4 → s 4 ≤ 30 → 0 ≤ s 3 ∧ s 3 ≤ 6 → n = (s 3).toNat → time = s 1 →
    airL (mClD i s) = ((airL s).take i).filter (fun b => decide (bStill n time b ≠ 0)) ++ (airL s).drop i ∧ 0 ≤ mClD i s 4 ∧ mClD i s 4 ≤ s 4 := by
  intro i
  induction i with
  | zero => intro s h _ h3 hn ht; exact ⟨by simp [mClD], by simpa [mClD] using h, by simp [mClD]⟩
  | succ i ih =>
    intro s h h30 h3 hn ht
    have hlen : i < (airL s).length := by rw [airL_len]; omega
    have hget : (airL s)[i] = blk s i := airL_get hlen
    have hst := still_blk (s := s) (i := i) h3
    rw [← hn, ← ht] at hst
    rw [mClD]
    by_cases hc : mStill s (i : Int) = 0
    · rw [if_pos hc]
      have h1 := ih (mCl1 s i) (by rw [cl1_4]; omega) (by rw [cl1_4]; omega) (by rw [cl1_lo (by decide) (by decide)]; exact h3) (by rw [cl1_lo (by decide) (by decide)]; exact hn) (by rw [cl1_lo (by decide) (by decide)]; exact ht)
      rw [cl1_4] at h1
      refine ⟨?_, h1.2.1, by omega⟩
      rw [h1.1, airL_cl1 (by omega)]
      rw [take_erase, List.take_succ_eq_append_getElem hlen, List.filter_append, hget]
      have e1 : [blk s i].filter (fun b => decide (bStill n time b ≠ 0)) = [] := by
        simp [← hst, hc]
      rw [e1, List.append_nil]
      congr 1
      rw [List.eraseIdx_eq_take_drop_succ, List.drop_append, List.drop_eq_nil_of_le (by rw [List.length_take]; omega), List.length_take, List.nil_append, Nat.min_eq_left (by omega), Nat.sub_self, List.drop_zero]
    · rw [if_neg hc]
      have h1 := ih s (by omega) h30 h3 hn ht
      refine ⟨?_, h1.2⟩
      rw [h1.1, List.take_succ_eq_append_getElem hlen, List.filter_append, hget]
      have e1 : [blk s i].filter (fun b => decide (bStill n time b ≠ 0)) = [blk s i] := by
        simp [← hst, hc]
      rw [e1, List.append_assoc]
      congr 1
      rw [List.drop_eq_getElem_cons hlen, hget]; rfl
theorem airL_clears {s : Nat → Int} (h4 : 0 ≤ s 4 ∧ s 4 ≤ 30) (h3 : 0 ≤ s 3 ∧ s 3 ≤ 6) :
    airL (mClears s) = (airL s).filter (fun b => decide (bStill (s 3).toNat (s 1) b ≠ 0)) ∧ 0 ≤ mClears s 4 ∧ mClears s 4 ≤ s 4 := by
  have h := airL_clD (n := (s 3).toNat) (time := s 1) (s 4).toNat s (by omega) h4.2 h3 rfl rfl
  rw [List.take_of_length_le (by rw [airL_len]; omega), List.drop_eq_nil_of_le (by rw [airL_len]; omega), List.append_nil] at h
  exact h
theorem clears_lo {s : Nat → Int} {j : Nat} (h : j < 1150) (h4 : j ≠ 4) : mClears s j = s j := clD_lo _ _ h h4
theorem hi0_out {l : Int} {s s' : Nat → Int} (h : sameOut l s s') (hl : 0 ≤ l ∧ l ≤ 5) (h0 : hi0 s) : hi0 s' := fun j hj => by
  rw [h j (by omega)]; exact h0 j hj
theorem hi0_up {s : Nat → Int} {i : Nat} {v : Int} (hi : i < 3280) (h0 : hi0 s) : hi0 (up1 s i v) := fun j hj => by
  rw [up1_ne (by omega)]; exact h0 j hj
theorem hi0_airs {s : Nat → Int} {w n len : Int} (h4 : s 4 < 30) (h0 : hi0 s) : hi0 (mAirs s w n len) := fun j hj => by
  rw [airs_hi (by omega)]; simp only [airF]; rw [if_neg (by omega)]; exact h0 j hj
theorem hi0_cl1 {s : Nat → Int} {i : Nat} (h4 : s 4 ≤ 30) (h0 : hi0 s) : hi0 (mCl1 s i) := fun j hj => by
  simp only [mCl1]; rw [if_neg (by omega), if_neg (by omega)]; exact h0 j hj
theorem hi0_clD : ∀ (i : Nat) (s : Nat → Int), s 4 ≤ 30 → hi0 s → hi0 (mClD i s) := by
  intro i
  induction i with
  | zero => intro s _ h; exact h
  | succ i ih =>
    intro s h4 h
    rw [mClD]
    split
    · exact ih _ (by rw [cl1_4]; omega) (hi0_cl1 h4 h)
    · exact ih _ h4 h
/-- an entry of the air, by its place -/
theorem ai_airL {s : Nat → Int} {i : Int} (h0 : 0 ≤ i) (h : i < s 4) : ∃ hh : i.toNat < (airL s).length, (airL s)[i.toNat] = blk s i.toNat :=
  ⟨by rw [airL_len]; omega, airL_get _⟩
theorem MI_clears {c : Int} {s : Nat → Int} (h : MI c s) : MI c (mClears s) := by
  obtain ⟨a0, a1, a2, a3, a7, aA, aQ, aL⟩ := h
  obtain ⟨q1, q2, q3⟩ := airL_clears (s := s) ⟨aA.1, aA.2.1⟩ (by omega)
  have hin : ∀ i, 0 ≤ i → i < mClears s 4 → blk (mClears s) i.toNat ∈ airL s := by
    intro i i0 i4
    have := airL_mem (s := mClears s) i0 i4
    rw [q1] at this
    exact (List.mem_filter.mp this).1
  have e : ∀ j : Nat, j < 1150 → j ≠ 4 → mClears s j = s j := fun j h1 h2 => clears_lo h1 h2
  refine ⟨by rw [e 0 (by decide) (by decide)]; exact a0, by rw [e 1 (by decide) (by decide)]; exact a1, by rw [e 2 (by decide) (by decide)]; exact a2, by rw [e 3 (by decide) (by decide)]; exact a3, by rw [e 7 (by decide) (by decide), e 1 (by decide) (by decide)]; exact a7, ⟨q2, by have := aA.2.1; omega, fun i i0 i4 => ?_⟩, fun i i0 i4 => ?_, fun l l0 l3 => ?_⟩
  · obtain ⟨j, j0, j4, hj⟩ := airL_of (hin i i0 i4)
    have := aA.2.2 j j0 j4
    rw [mAi_blk j0 (by decide), mAi_blk j0 (by decide), mAi_blk j0 (by decide), ← hj] at this
    rw [mAi_blk i0 (by decide), mAi_blk i0 (by decide), mAi_blk i0 (by decide)]
    refine ⟨this.1, this.2.1, this.2.2.1, fun h9 => ?_⟩
    have h10 := this.2.2.2 h9
    have e9 : mCo (mClears s) (blk (mClears s) i.toNat (1 : Int).toNat) 0 = mCo s (blk (mClears s) i.toNat (1 : Int).toNat) 0 := by
      simp only [mCo]; exact e _ (by have := this.1; omega) (by omega)
    rw [e9]; exact h10
  · have hsub : (airL (mClears s)).Sublist (airL s) := by rw [q1]; exact List.filter_sublist
    have hP : (airL s).Pairwise (fun b c => b 4 < c 4) := by
      rw [List.pairwise_iff_getElem]
      intro x y hx hy hxy
      rw [airL_get, airL_get]
      rw [airL_len] at hx hy
      have := (aQ (x : Int) (by omega) (by omega)).2 (y : Int) (by omega) (by omega)
      rw [mAi_blk (by omega) (by decide), mAi_blk (by omega) (by decide), Int.toNat_natCast, Int.toNat_natCast] at this
      exact this
    have hP2 := hP.sublist hsub
    obtain ⟨j, j0, j4, hj⟩ := airL_of (hin i i0 i4)
    refine ⟨?_, fun k hk k4 => ?_⟩
    · have := (aQ j j0 j4).1
      rw [mAi_blk j0 (by decide), ← hj] at this
      rw [mAi_blk i0 (by decide), e 7 (by decide) (by decide)]; exact this
    · rw [List.pairwise_iff_getElem] at hP2
      have := hP2 i.toNat k.toNat (by rw [airL_len]; omega) (by rw [airL_len]; omega) (by omega)
      rw [airL_get, airL_get] at this
      rw [mAi_blk i0 (by decide), mAi_blk (by omega) (by decide)]
      exact this
  · rw [e 3 (by decide) (by decide)] at l3
    have g : ∀ x : Int, 0 ≤ x → x < 2 → mLi (mClears s) l x = mLi s l x := by
      intro x x0 x2; simp only [mLi]; exact e _ (by omega) (by omega)
    rw [g 0 (by decide) (by decide), g 1 (by decide) (by decide)]
    exact aL l l0 l3
theorem hearAll_keep {c : Int} {C : List (Nat → Int)} : ∀ (d : Nat) (x : Int) (s : Nat → Int), 0 ≤ x → x + d ≤ 6 → MI c s → (∀ b, b ∈ C → b ∈ airL s) →
    MI c (itA d x s (mHearF C)) ∧ (hi0 s → hi0 (itA d x s (mHearF C))) ∧ (∀ j, j < 16 → itA d x s (mHearF C) j = s j) ∧ airL (itA d x s (mHearF C)) = airL s := by
  intro d
  induction d with
  | zero => intro x s h0 h hM hC; exact ⟨hM, id, fun _ _ => rfl, rfl⟩
  | succ d ih =>
    intro x s h0 h hM hC
    have hx : 0 ≤ x ∧ x ≤ 5 := by omega
    have hsm := hearF_same hx hM.2.2.2.2.2.1 hC
    obtain ⟨g1, g2, g3, g4⟩ := ih (x + 1) (mHearF C x s) (by omega) (by omega) (MI_same hM hsm hx) (fun b hb => by rw [airL_same hsm hx]; exact hC b hb)
    rw [itA]
    exact ⟨g1, fun h => g2 (hi0_out hsm hx h), fun j hj => by rw [g3 j hj, sameOut_hd hsm hx hj], by rw [g4, airL_same hsm hx]⟩
theorem mT2_hd {s : Nat → Int} {j : Nat} (hj : j < 1150) (h : j ≠ 1 ∧ j ≠ 4 ∧ j ≠ 5 ∧ j ≠ 6 ∧ j ≠ 7) : mT2 s j = s j := by
  unfold mT2
  split
  · split
    · rw [airs_hd hj (by omega)]; exact up1_ne h.1
    · rw [up1_ne (by omega)]; exact up1_ne h.1
  · exact up1_ne h.1
theorem mT2_1 {s : Nat → Int} : mT2 s 1 = s 1 + 1 := by
  unfold mT2
  split
  · split
    · rw [airs_hd (by decide) (by decide)]; exact up1_eq
    · rw [up1_ne (by decide)]; exact up1_eq
  · exact up1_eq
theorem hi0_T2 {s : Nat → Int} (h : hi0 s) : hi0 (mT2 s) := by
  have h1 : hi0 (mT1 s) := hi0_up (by decide) h
  unfold mT2
  split
  · split
    · rename_i h4
      exact hi0_airs (by show mT1 s 4 < 30; rw [mT1, up1_ne (by decide)]; exact h4) h1
    · exact hi0_up (by decide) h1
  · exact h1
theorem MI_tick {c : Int} {s : Nat → Int} (hM : MI c s) (hc : c ≤ 1000) (h1 : s 1 ≤ 15000) : MI c (mTick s) ∧ (hi0 s → hi0 (mTick s)) ∧ mTick s 1 = s 1 + 1 ∧ mTick s 0 = s 0 ∧ mTick s 2 = s 2 ∧ mTick s 3 = s 3 := by
  have hM2 := MI_T2 hM hc h1
  have h3 := hM2.2.2.2.1
  obtain ⟨g1, g2, g3, g4⟩ := hearAll_keep (C := srt (mT2 s)) (mT2 s 3).toNat 0 (mT2 s) (by decide) (by omega) hM2 (fun b hb => srt_perm.mem_iff.mp hb)
  have hA := g1.2.2.2.2.2.1
  refine ⟨MI_clears g1, fun h => hi0_clD _ _ hA.2.1 (g2 (hi0_T2 h)), ?_, ?_, ?_, ?_⟩
  · show mClears _ 1 = _; rw [clears_lo (by decide) (by decide)]; exact (g3 1 (by decide)).trans mT2_1
  · show mClears _ 0 = _; rw [clears_lo (by decide) (by decide)]; exact (g3 0 (by decide)).trans (mT2_hd (by decide) (by decide))
  · show mClears _ 2 = _; rw [clears_lo (by decide) (by decide)]; exact (g3 2 (by decide)).trans (mT2_hd (by decide) (by decide))
  · show mClears _ 3 = _; rw [clears_lo (by decide) (by decide)]; exact (g3 3 (by decide)).trans (mT2_hd (by decide) (by decide))
def mTicks : Nat → (Nat → Int) → (Nat → Int)
  | 0, s => s
  | d + 1, s => mTicks d (mTick s)
/-- how many ticks until something holds -/
def mWait : Nat → Int → ((Nat → Int) → Bool) → (Nat → Int) → Int
  | 0, _, _, _ => -1
  | d + 1, n, P, s => if P s = true then n else mWait d (n + 1) P (mTick s)
def slc (st : Nat → Int) (i : Nat) : Nat → Int := fun j => if j < 3280 then st (3280 * i + j) else 0
theorem slc_hi {st : Nat → Int} {i : Nat} : hi0 (slc st i) := fun j hj => by simp only [slc]; rw [if_neg (by omega)]
theorem cpy_slc {st g : Nat → Int} {i : Nat} (h : hi0 g) : a_cpy st g (3280 * i) 0 3280 = slc st i := by
  funext j
  simp only [a_cpy, slc]
  by_cases hj : j < 3280
  · rw [if_pos (by omega), if_pos hj]; congr 1
  · rw [if_neg (by omega), if_neg hj, h j (by omega)]
theorem slc_put {s st : Nat → Int} {i : Nat} (h : hi0 s) : slc (a_cpy s st 0 (3280 * i) 3280) i = s := by
  funext j
  simp only [slc]
  by_cases hj : j < 3280
  · rw [if_pos hj, cpy_in (by omega) (by omega)]; congr 1; omega
  · rw [if_neg hj, h j (by omega)]
theorem slc_other {s st : Nat → Int} {i k : Nat} (h : k ≠ i) : slc (a_cpy s st 0 (3280 * i) 3280) k = slc st k := by
  funext j
  simp only [slc]
  by_cases hj : j < 3280
  · rw [if_pos hj, if_pos hj]; exact cpy_out (by omega)
  · rw [if_neg hj, if_neg hj]
section M8
variable {L : Nat} {u : Nat → Nat → Int} {a : Nat → Nat → Nat} {t : Nat × Nat × Nat} {s : Nat → Int}
theorem M_ticksAll_loop {c n : Int} (hc : c ≤ 1000) (hn : n ≤ 1000) : ∀ (d : Nat) (x : Int) (s : Nat → Int), 0 ≤ x → x + d = n → MI c s → s 1 + d ≤ 15000 → a_X 208 2 [a_r 1557, a_i n, a_i x] [] (K0 L, upr u 1558 s, G a, t) = some (.inl none, (K0 L, upr u 1558 (mTicks d s), G a, t)) := by
  intro d
  induction d with
  | zero => intro x s h0 h hM h1; rw [B_X11_ticksAll_2]; simp (disch := first | assumption | omega | (simp only [upr_f, upr_eq]; first | assumption | omega)) only [B_X11_ticksAll_0, B_X11_ticksAll_11, Option.bind_some, back_v, Option.toList_some, Option.toList_none, List.cons_append, List.nil_append, Nat.reduceAdd, Int.reduceToNat, Int.reduceNeg, upm_eq, upm_r, upm_i, if_pos, if_neg, ite_self, true_or, or_true, true_and, and_true, false_or, or_false, false_and, and_false, wr_id, i10, i01, upr_f, upr_eq, upm_upr, upr_upr, lc_lt, lc_gt, lc_ge, lc_le, afit1, afit0, afitI, bifit, not_true_eq_false, not_false_eq_true, if_true, if_false, Bool.false_eq_true, reduceCtorEq, k1557, k1558, g1557_2, mTicks]
  | succ d ih =>
    intro x s h0 h hM h1
    have hk := MI_tick hM hc (by omega)
    have ht := M_ticks (L := L) (u := u) (a := a) (t := t) hM hc (by omega)
    rw [B_X11_ticksAll_2]
    simp (disch := first | assumption | omega | (simp only [upr_f, upr_eq]; first | assumption | omega)) only [B_X11_ticksAll_0, B_X11_ticksAll_11, Option.bind_some, back_v, Option.toList_some, Option.toList_none, List.cons_append, List.nil_append, Nat.reduceAdd, Int.reduceToNat, Int.reduceNeg, upm_eq, upm_r, upm_i, if_pos, if_neg, ite_self, true_or, or_true, true_and, and_true, false_or, or_false, false_and, and_false, wr_id, i10, i01, upr_f, upr_eq, upm_upr, upr_upr, lc_lt, lc_gt, lc_ge, lc_le, afit1, afit0, afitI, bifit, not_true_eq_false, not_false_eq_true, if_true, if_false, Bool.false_eq_true, reduceCtorEq, k1557, k1558, g1557_2, mTicks, ht]
    exact ih _ _ (by omega) (by omega) hk.1 (by rw [hk.2.2.1]; omega)
theorem M_ticksAll {c n : Int} (hc : c ≤ 1000) (hn : 0 ≤ n ∧ n ≤ 1000) (hM : MI c s) (h1 : s 1 + n ≤ 15000) : a_m 208 [a_r 1557, a_i n] (K0 L, upr u 1558 s, G a, t) = some (.inl none, (K0 L, upr u 1558 (mTicks n.toNat s), G a, t)) := by
  simp (disch := first | assumption | omega | (simp only [upr_f, upr_eq]; first | assumption | omega)) only [E_X11_ticksAll, B_X11_ticksAll_0, B_X11_ticksAll_11, Option.bind_some, back_v, Option.toList_some, Option.toList_none, List.cons_append, List.nil_append, Nat.reduceAdd, Int.reduceToNat, Int.reduceNeg, upm_eq, upm_r, upm_i, if_pos, if_neg, ite_self, true_or, or_true, true_and, and_true, false_or, or_false, false_and, and_false, wr_id, i10, i01, upr_f, upr_eq, upm_upr, upr_upr, lc_lt, lc_gt, lc_ge, lc_le, afit1, afit0, afitI, bifit, not_true_eq_false, not_false_eq_true, if_true, if_false, Bool.false_eq_true, reduceCtorEq, k1557, k1558, g1557_2]
  exact M_ticksAll_loop hc hn.2 _ _ _ (by omega) (by omega) hM (by omega)
theorem MI_ticks {c : Int} (hc : c ≤ 1000) : ∀ (d : Nat) (s : Nat → Int), MI c s → s 1 + d ≤ 15000 → MI c (mTicks d s) ∧ (hi0 s → hi0 (mTicks d s)) ∧ mTicks d s 1 = s 1 + d ∧ mTicks d s 2 = s 2 ∧ mTicks d s 3 = s 3 := by
  intro d
  induction d with
  | zero => intro s h _; exact ⟨h, id, by simp [mTicks], rfl, rfl⟩
  | succ d ih =>
    intro s h h1
    obtain ⟨k1, k2, k3, k4, k5, k6⟩ := MI_tick h hc (by omega)
    obtain ⟨g1, g2, g3, g4, g5⟩ := ih (mTick s) k1 (by omega)
    exact ⟨g1, fun h => g2 (k2 h), by rw [mTicks, g3, k3]; omega, by rw [mTicks, g4, k5], by rw [mTicks, g5, k6]⟩
theorem M_tries : a_m 251 [a_r 1557] (K0 L, upr u 1558 s, G a, t) = some (.inl none, (K0 L, upr (upr u 1558 s) 1559 (a_cpy s (u 1559) 0 32800 3280), G a, t)) := by
  have h := M_copies (L := L) (u := upr u 1558 s) (a := a) (t := t) (r := 1558) (q := 1559) (f := 0) (g := 32800) k1558 k1559 (by decide) (by decide) (by decide)
  rw [upr_f, upr_rf (by decide)] at h
  simp (disch := first | assumption | omega | (simp only [upr_f, upr_eq]; first | assumption | omega)) only [E_X11_tries, B_X11_tries_0, B_X11_tries_15, Option.bind_some, back_v, Option.toList_some, Option.toList_none, List.cons_append, List.nil_append, Nat.reduceAdd, Int.reduceToNat, Int.reduceNeg, upm_eq, upm_r, upm_i, if_pos, if_neg, ite_self, true_or, or_true, true_and, and_true, false_or, or_false, false_and, and_false, wr_id, i10, i01, upr_f, upr_eq, upm_upr, upr_upr, lc_lt, lc_gt, lc_ge, lc_le, afit1, afit0, afitI, bifit, not_true_eq_false, not_false_eq_true, if_true, if_false, Bool.false_eq_true, reduceCtorEq, k1557, k1558, g1557_2, k1559, g1557_3, h]
theorem M_back {v : Int} {s' st : Nat → Int} (hs : slc st 10 = s) (h0 : hi0 s') : a_m 252 [a_r 1557, a_i v] (K0 L, upr (upr u 1558 s') 1559 st, G a, t) = some (.inl (some (a_i (v))), (K0 L, upr (upr (upr u 1558 s') 1559 st) 1558 s, G a, t)) := by
  have h := M_copies (L := L) (u := upr (upr u 1558 s') 1559 st) (a := a) (t := t) (r := 1559) (q := 1558) (f := 32800) (g := 0) k1559 k1558 (by decide) (by decide) (by decide)
  rw [upr_f, upr_rf (by decide), upr_f, show a_cpy st s' (Int.toNat 32800) (Int.toNat 0) 3280 = s from by rw [← hs]; exact cpy_slc (i := 10) h0] at h
  simp (disch := first | assumption | omega | (simp only [upr_f, upr_eq]; first | assumption | omega)) only [E_X11_back, B_X11_back_0, B_X11_back_15, Option.bind_some, back_v, Option.toList_some, Option.toList_none, List.cons_append, List.nil_append, Nat.reduceAdd, Int.reduceToNat, Int.reduceNeg, upm_eq, upm_r, upm_i, if_pos, if_neg, ite_self, true_or, or_true, true_and, and_true, false_or, or_false, false_and, and_false, wr_id, i10, i01, upr_f, upr_eq, upm_upr, upr_upr, lc_lt, lc_gt, lc_ge, lc_le, afit1, afit0, afitI, bifit, not_true_eq_false, not_false_eq_true, if_true, if_false, Bool.false_eq_true, reduceCtorEq, k1557, k1558, g1557_2, k1559, g1557_3, h]
end M8
