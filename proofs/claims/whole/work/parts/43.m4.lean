/-! ===== the reference: what goes on the air and is heard ===== -/
def airC (s : Nat → Int) (w n len : Int) (c : Nat) : Int :=
  if c = 0 then w else if c = 1 then n else if c = 2 then s 1 else if c = 3 then len else if c = 4 then s 7
  else if c < 11 then (if ((c - 5 : Nat) : Int) < s 3 then s 1 + len + mLi s ((c - 5 : Nat) : Int) 0 else -1)
  else if w = 1 then s (16 + (c - 11)) else 0
def airF (s : Nat → Int) (w n len : Int) (c0 : Nat) : Nat → Int := fun j => if 1150 + 71 * (s 4).toNat ≤ j ∧ j < 1150 + 71 * (s 4).toNat + c0 then airC s w n len (j - (1150 + 71 * (s 4).toNat)) else s j
def mAirs (s : Nat → Int) (w n len : Int) : Nat → Int := up1 (up1 (up1 (airF s w n len 71) 4 (s 4 + 1)) 7 (s 7 + 1)) 5 (wr (s 5 + w))
theorem airF0 {s : Nat → Int} {w n len : Int} : airF s w n len 0 = s := by
  funext j; simp only [airF]; rw [if_neg (by omega)]
theorem airF1 {s : Nat → Int} {w n len : Int} {c j : Nat} (hj : j = 1150 + 71 * (s 4).toNat + c) : up1 (airF s w n len c) j (airC s w n len c) = airF s w n len (c + 1) := by
  subst hj
  funext j; simp only [airF, up1]
  by_cases h : j = 1150 + 71 * (s 4).toNat + c
  · subst h; rw [if_pos rfl, if_pos (by omega), Nat.add_sub_cancel_left]
  · rw [if_neg h]
    by_cases h2 : 1150 + 71 * (s 4).toNat ≤ j ∧ j < 1150 + 71 * (s 4).toNat + c
    · rw [if_pos h2, if_pos (by omega)]
    · rw [if_neg h2, if_neg (by omega)]
theorem airF_lo {s : Nat → Int} {w n len : Int} {c j : Nat} (h : j < 1150) : airF s w n len c j = s j := by
  simp only [airF]; rw [if_neg (by omega)]
theorem airF_li {s : Nat → Int} {w n len : Int} {c : Nat} {l x : Int} (h : 0 ≤ l ∧ l ≤ 5) (h2 : 0 ≤ x ∧ x < 19) : mLi (airF s w n len c) l x = mLi s l x := by
  simp only [mLi]; exact airF_lo (by omega)
theorem upm_58 {f : Nat → Nat → Int} {i : Nat} {v : Int} : upm f 1558 i v = upr f 1558 (up1 (f 1558) i v) := upm_up1
def blk (s : Nat → Int) (i : Nat) : Nat → Int := fun c => if c < 71 then s (1150 + 71 * i + c) else 0
def airL (s : Nat → Int) : List (Nat → Int) := (List.range (s 4).toNat).map (blk s)
def bRank (b : Nat → Int) : Int := (2 * b 1 + b 0) * 1000000 + b 4
theorem blk_at {s : Nat → Int} {i c : Nat} (h : c < 71) : blk s i c = s (1150 + 71 * i + c) := by simp [blk, h]
theorem mAi_blk {s : Nat → Int} {i w : Int} (hi : 0 ≤ i) (hw : 0 ≤ w ∧ w < 71) : mAi s i w = blk s i.toNat w.toNat := by
  rw [blk_at (by omega), mAi]; congr 1; omega
def mHearN (s : Nat → Int) (l n : Int) : Nat → Int := up1 s (436 + 19 * l + 11).toNat (max n (mLi s l 11))
def mHearB (s : Nat → Int) (l n : Int) : Nat → Int := up1 (mHearN s l n) (436 + 19 * l + (15 + n.tdiv 32)).toNat (zor (mLi (mHearN s l n) l (15 + n.tdiv 32)) (zshl 1 (n.tmod 32)))
def mHearD (s : Nat → Int) (l n : Int) : Nat → Int :=
  if s (16 + 60 * (l + 1) + 5 * mCo s n 0 + 4).toNat < n then up1 (a_cpy s s (550 + 6 * (n - 1) + 1).toNat (16 + 60 * (l + 1) + 5 * mCo s n 0).toNat 4) (16 + 60 * (l + 1) + 5 * mCo s n 0 + 4).toNat n
  else up1 s (436 + 19 * l + 12).toNat (wr (mLi s l 12 + 1))
def mHearC (s : Nat → Int) (l n : Int) : Nat → Int := mHearD (mHearB s l n) l n
def mHearW0 (s : Nat → Int) (l n : Int) : Nat → Int :=
  up1 (up1 (mHearN s l n) (436 + 19 * l + 10).toNat (max n (mLi (mHearN s l n) l 10))) (436 + 19 * l + 13).toNat (wr (mLi (up1 (mHearN s l n) (436 + 19 * l + 10).toNat (max n (mLi (mHearN s l n) l 10))) l 13 + 1))
def mHearWk (l : Int) (b : Nat → Int) (k : Int) (s : Nat → Int) : Nat → Int :=
  if mOf s l k 4 ≤ b (11 + 5 * k + 4).toNat then a_cpy b s (11 + 5 * k).toNat (16 + 60 * (l + 1) + 5 * k).toNat 5 else s
def mHearW (s : Nat → Int) (l : Int) (b : Nat → Int) : Nat → Int := itA 12 0 (mHearW0 s l (b 1)) (mHearWk l b)
def mStep (l : Int) (off : Bool) (s : Nat → Int) (b : Nat → Int) : Nat → Int :=
  if off = true then up1 s (436 + 19 * l + 14).toNat (wr (mLi s l 14 + 1)) else if b 0 = 1 then mHearW s l b else mHearC s l (b 1)
/-- nothing outside a listener's own part differs -/
def sameOut (l : Int) (s s' : Nat → Int) : Prop := ∀ j : Nat, ¬ ((16 + 60 * (l + 1) ≤ j ∧ (j : Int) < 16 + 60 * (l + 1) + 60) ∨ (436 + 19 * l + 10 ≤ j ∧ (j : Int) < 436 + 19 * l + 19)) → s' j = s j
theorem sameOut.refl {l : Int} {s : Nat → Int} : sameOut l s s := fun _ _ => rfl
theorem sameOut.trans {l : Int} {s s' s'' : Nat → Int} (h : sameOut l s s') (h2 : sameOut l s' s'') : sameOut l s s'' := fun j hj => (h2 j hj).trans (h j hj)
theorem sameOut_li {l w : Int} {s : Nat → Int} {v : Int} (hl : 0 ≤ l) (hw : 10 ≤ w ∧ w < 19) : sameOut l s (up1 s (436 + 19 * l + w).toNat v) := by
  intro j hj; exact up1_ne (by omega)
theorem sameOut_cpy {l : Int} {f s : Nat → Int} {a d n : Nat} (h : 16 + 60 * (l + 1) ≤ d) (h2 : (d : Int) + n ≤ 16 + 60 * (l + 1) + 60) : sameOut l s (a_cpy f s a d n) := by
  intro j hj; exact cpy_out (by omega)
theorem sameOut_N {l n : Int} {s : Nat → Int} (hl : 0 ≤ l) : sameOut l s (mHearN s l n) := sameOut_li hl (by decide)
theorem sameOut_B {l n : Int} {s : Nat → Int} (hl : 0 ≤ l) (hn : 1 ≤ n ∧ n ≤ 99) : sameOut l s (mHearB s l n) := by
  have h4 := tdiv32 hn
  exact (sameOut_N hl).trans (sameOut_li hl (by omega))
theorem sameOut_D {l n : Int} {s : Nat → Int} (hl : 0 ≤ l) (hc : 0 ≤ mCo s n 0 ∧ mCo s n 0 < 12) : sameOut l s (mHearD s l n) := by
  unfold mHearD
  split
  · refine (sameOut_cpy (f := s) (a := (550 + 6 * (n - 1) + 1).toNat) (d := (16 + 60 * (l + 1) + 5 * mCo s n 0).toNat) (n := 4) (by omega) (by omega)).trans ?_
    intro j hj; exact up1_ne (by omega)
  · exact sameOut_li hl (by decide)
theorem sameOut_co {l n w : Int} {s s' : Nat → Int} (h : sameOut l s s') (hl : 0 ≤ l ∧ l ≤ 5) (hn : 1 ≤ n) (hw : 0 ≤ w) : mCo s' n w = mCo s n w := by
  simp only [mCo]; exact h _ (by omega)
theorem sameOut_C {l n : Int} {s : Nat → Int} (hl : 0 ≤ l ∧ l ≤ 5) (hn : 1 ≤ n ∧ n ≤ 99) (hc : 0 ≤ mCo s n 0 ∧ mCo s n 0 < 12) : sameOut l s (mHearC s l n) := by
  have h1 := sameOut_B (s := s) hl.1 hn
  have h2 := sameOut_co h1 hl hn.1 (w := 0) (by decide)
  exact h1.trans (sameOut_D hl.1 (by rw [h2]; exact hc))
theorem sameOut_W0 {l n : Int} {s : Nat → Int} (hl : 0 ≤ l) : sameOut l s (mHearW0 s l n) := ((sameOut_N hl).trans (sameOut_li hl (by decide))).trans (sameOut_li hl (by decide))
theorem sameOut_Wk {l k : Int} {s b : Nat → Int} (hk : 0 ≤ k ∧ k < 12) (hl : 0 ≤ l) : sameOut l s (mHearWk l b k s) := by
  unfold mHearWk
  split
  · exact sameOut_cpy (by omega) (by omega)
  · exact sameOut.refl
theorem sameOut_Wi {l : Int} {b : Nat → Int} (hl : 0 ≤ l) : ∀ (d : Nat) (x : Int) (s : Nat → Int), 0 ≤ x → x + d = 12 → sameOut l s (itA d x s (mHearWk l b)) := by
  intro d
  induction d with
  | zero => intro x s _ _; exact sameOut.refl
  | succ d ih => intro x s h0 h; exact (sameOut_Wk ⟨h0, by omega⟩ hl).trans (ih _ _ (by omega) (by omega))
theorem sameOut_W {l : Int} {s b : Nat → Int} (hl : 0 ≤ l) : sameOut l s (mHearW s l b) := (sameOut_W0 hl).trans (sameOut_Wi hl _ _ _ (by decide) (by decide))
theorem sameOut_step {l : Int} {off : Bool} {s b : Nat → Int} (hl : 0 ≤ l ∧ l ≤ 5) (hn : b 0 ≠ 1 → 1 ≤ b 1 ∧ b 1 ≤ 99 ∧ 0 ≤ mCo s (b 1) 0 ∧ mCo s (b 1) 0 < 12) : sameOut l s (mStep l off s b) := by
  unfold mStep
  split
  · exact sameOut_li hl.1 (by decide)
  · split
    · exact sameOut_W hl.1
    · rename_i h1 h2
      obtain ⟨a1, a2, a3, a4⟩ := hn h2
      exact sameOut_C hl ⟨a1, a2⟩ ⟨a3, a4⟩
theorem sameOut_blk {l : Int} {s s' : Nat → Int} (h : sameOut l s s') (hl : 0 ≤ l ∧ l ≤ 5) (i : Nat) : blk s' i = blk s i := by
  funext c; unfold blk; split
  · exact h _ (by omega)
  · rfl
theorem cpy_src {f f' g : Nat → Int} {a a' d n : Nat} (h : ∀ c, c < n → f (a + c) = f' (a' + c)) : a_cpy f g a d n = a_cpy f' g a' d n := by
  funext k; simp only [a_cpy]
  by_cases h2 : d ≤ k ∧ k < d + n
  · rw [if_pos h2, if_pos h2]; exact h _ (by omega)
  · rw [if_neg h2, if_neg h2]
theorem airC_due {s : Nat → Int} {w n len : Int} {i : Nat} (h : i < 6) : airC s w n len (5 + i) = if (i : Int) < s 3 then s 1 + len + mLi s (i : Int) 0 else -1 := by
  unfold airC
  rw [if_neg (by omega), if_neg (by omega), if_neg (by omega), if_neg (by omega), if_neg (by omega), if_pos (by omega), show 5 + i - 5 = i from by omega]
theorem airC_list {s : Nat → Int} {w n len : Int} {i : Nat} (h : i < 60) : airC s w n len (11 + i) = if w = 1 then s (16 + i) else 0 := by
  unfold airC
  rw [if_neg (by omega), if_neg (by omega), if_neg (by omega), if_neg (by omega), if_neg (by omega), if_neg (by omega), show 11 + i - 11 = i from by omega]
section M4
variable {L : Nat} {u : Nat → Nat → Int} {a : Nat → Nat → Nat} {t : Nat × Nat × Nat} {s : Nat → Int}
theorem M_hearsNumber {l n : Int} (hl : 0 ≤ l ∧ l ≤ 5) : a_m 201 [a_r 1557, a_i l, a_i n] (K0 L, upr u 1558 s, G a, t) = some (.inl none, (K0 L, upr u 1558 (mHearN s l n), G a, t)) := by
  simp (disch := first | assumption | omega | (simp only [upr_f, upr_eq]; first | assumption | omega)) only [E_X11_hearsNumber, B_X11_hearsNumber_0, B_X11_hearsNumber_12, B_X11_hearsNumber_18, Option.bind_some, back_v, Option.toList_some, Option.toList_none, List.cons_append, List.nil_append, Nat.reduceAdd, Int.reduceToNat, Int.reduceNeg, upm_eq, upm_r, upm_i, if_pos, if_neg, ite_self, true_or, or_true, true_and, and_true, false_or, or_false, false_and, and_false, wr_id, i10, i01, upr_f, upr_eq, upm_upr, upr_upr, lc_lt, lc_gt, lc_ge, lc_le, afit1, afit0, afitI, bifit, not_true_eq_false, not_false_eq_true, if_true, if_false, Bool.false_eq_true, reduceCtorEq, k1557, k1558, g1557_2, M_ofListener, M_putsListener, mHearN]
theorem M_hearsCorrection {l n : Int} (hl : 0 ≤ l ∧ l ≤ 5) (hn : 1 ≤ n ∧ n ≤ 99) (hc : 0 ≤ mCo s n 0 ∧ mCo s n 0 < 12) : a_m 202 [a_r 1557, a_i l, a_i n] (K0 L, upr u 1558 s, G a, t) = some (.inl none, (K0 L, upr u 1558 (mHearC s l n), G a, t)) := by
  have h4 := tdiv32 hn
  have h5 := sameOut_co (sameOut_B (s := s) hl.1 hn) hl hn.1 (w := 0) (by decide)
  have hB : up1 (mHearN s l n) (436 + 19 * l + (15 + n.tdiv 32)).toNat (zor (mLi (mHearN s l n) l (15 + n.tdiv 32)) (zshl 1 (n.tmod 32))) = mHearB s l n := rfl
  have hq : 0 ≤ mCo (mHearB s l n) n 0 ∧ mCo (mHearB s l n) n 0 < 12 := by rw [h5]; exact hc
  unfold mHearC mHearD
  by_cases h6 : (mHearB s l n) (16 + 60 * (l + 1) + 5 * mCo (mHearB s l n) n 0 + 4).toNat < n
  · rw [if_pos h6]
    simp (disch := first | assumption | omega | (simp only [upr_f, upr_eq]; first | assumption | omega)) only [E_X11_hearsCorrection, B_X11_hearsCorrection_0, B_X11_hearsCorrection_6, B_X11_hearsCorrection_27, B_X11_hearsCorrection_37, B_X11_hearsCorrection_44, B_X11_hearsCorrection_47, B_X11_hearsCorrection_67, B_X11_hearsCorrection_94, Option.bind_some, back_v, Option.toList_some, Option.toList_none, List.cons_append, List.nil_append, Nat.reduceAdd, Int.reduceToNat, Int.reduceNeg, upm_eq, upm_r, upm_i, if_pos, if_neg, ite_self, true_or, or_true, true_and, and_true, false_or, or_false, false_and, and_false, wr_id, i10, i01, upr_f, upr_eq, upm_upr, upr_upr, lc_lt, lc_gt, lc_ge, lc_le, afit1, afit0, afitI, bifit, not_true_eq_false, not_false_eq_true, if_true, if_false, Bool.false_eq_true, reduceCtorEq, k1557, k1558, g1557_2, M_ofListener, M_putsListener, M_hearsNumber, M_ofNumber, M_slotOf, hB]
    generalize hg : mHearB s l n = w at *
    have key := it_fwd (n := 4) (P := fun i : Nat => a_X 202 71 [a_r 1557, a_i l, a_i n, a_i (16 + 60 * (l + 1) + 5 * mCo w n 0), a_i (i : Int)] [] (K0 L, upr u 1558 (a_cpy w w (550 + 6 * (n - 1) + 1).toNat (16 + 60 * (l + 1) + 5 * mCo w n 0).toNat i), G a, t)) (fun i hi => by
      rw [B_X11_hearsCorrection_71]
      simp (disch := first | assumption | omega | (simp only [upr_f, upr_eq]; first | assumption | omega)) only [B_X11_hearsCorrection_0, B_X11_hearsCorrection_6, B_X11_hearsCorrection_27, B_X11_hearsCorrection_37, B_X11_hearsCorrection_44, B_X11_hearsCorrection_47, B_X11_hearsCorrection_67, B_X11_hearsCorrection_94, Option.bind_some, back_v, Option.toList_some, Option.toList_none, List.cons_append, List.nil_append, Nat.reduceAdd, Int.reduceToNat, Int.reduceNeg, upm_eq, upm_r, upm_i, if_pos, if_neg, ite_self, true_or, or_true, true_and, and_true, false_or, or_false, false_and, and_false, wr_id, i10, i01, upr_f, upr_eq, upm_upr, upr_upr, lc_lt, lc_gt, lc_ge, lc_le, afit1, afit0, afitI, bifit, not_true_eq_false, not_false_eq_true, if_true, if_false, Bool.false_eq_true, reduceCtorEq, k1557, k1558, g1557_2, M_ofNumber]
      rw [show (16 + 60 * (l + 1) + 5 * mCo w n 0 + (i : Int)).toNat = (16 + 60 * (l + 1) + 5 * mCo w n 0).toNat + i from by omega, show mCo (a_cpy w w (550 + 6 * (n - 1) + 1).toNat (16 + 60 * (l + 1) + 5 * mCo w n 0).toNat i) n (1 + (i : Int)) = w ((550 + 6 * (n - 1) + 1).toNat + i) from by
        rw [mCo, cpy_out (by omega)]; congr 1; omega, cpy1]
      rfl)
    rw [cpy0] at key
    refine (show _ = _ from key).trans ?_
    rw [B_X11_hearsCorrection_71]
    simp (disch := first | assumption | omega | (simp only [upr_f, upr_eq]; first | assumption | omega)) only [B_X11_hearsCorrection_0, B_X11_hearsCorrection_6, B_X11_hearsCorrection_27, B_X11_hearsCorrection_37, B_X11_hearsCorrection_44, B_X11_hearsCorrection_47, B_X11_hearsCorrection_67, B_X11_hearsCorrection_94, Option.bind_some, back_v, Option.toList_some, Option.toList_none, List.cons_append, List.nil_append, Nat.reduceAdd, Int.reduceToNat, Int.reduceNeg, upm_eq, upm_r, upm_i, if_pos, if_neg, ite_self, true_or, or_true, true_and, and_true, false_or, or_false, false_and, and_false, wr_id, i10, i01, upr_f, upr_eq, upm_upr, upr_upr, lc_lt, lc_gt, lc_ge, lc_le, afit1, afit0, afitI, bifit, not_true_eq_false, not_false_eq_true, if_true, if_false, Bool.false_eq_true, reduceCtorEq, k1557, k1558, g1557_2]
  · rw [if_neg h6]
    simp (disch := first | assumption | omega | (simp only [upr_f, upr_eq]; first | assumption | omega)) only [E_X11_hearsCorrection, B_X11_hearsCorrection_0, B_X11_hearsCorrection_6, B_X11_hearsCorrection_27, B_X11_hearsCorrection_37, B_X11_hearsCorrection_44, B_X11_hearsCorrection_47, B_X11_hearsCorrection_67, B_X11_hearsCorrection_94, Option.bind_some, back_v, Option.toList_some, Option.toList_none, List.cons_append, List.nil_append, Nat.reduceAdd, Int.reduceToNat, Int.reduceNeg, upm_eq, upm_r, upm_i, if_pos, if_neg, ite_self, true_or, or_true, true_and, and_true, false_or, or_false, false_and, and_false, wr_id, i10, i01, upr_f, upr_eq, upm_upr, upr_upr, lc_lt, lc_gt, lc_ge, lc_le, afit1, afit0, afitI, bifit, not_true_eq_false, not_false_eq_true, if_true, if_false, Bool.false_eq_true, reduceCtorEq, k1557, k1558, g1557_2, M_ofListener, M_putsListener, M_hearsNumber, M_ofNumber, M_slotOf, M_grows, hB]
theorem M_hearsWhole_loop {l i : Int} {s0 : Nat → Int} (hl : 0 ≤ l ∧ l ≤ 5) (hi : 0 ≤ i ∧ i < 30) : ∀ (d : Nat) (x : Int) (v : AV) (s : Nat → Int), 0 ≤ x → x + d = 12 → sameOut l s0 s → a_X 203 43 [a_r 1557, a_i l, a_i i, a_i x, v] [] (K0 L, upr u 1558 s, G a, t) = some (.inl none, (K0 L, upr u 1558 (itA d x s (mHearWk l (blk s0 i.toNat))), G a, t)) := by
  intro d
  induction d with
  | zero => intro x v s h0 h hs; rw [B_X11_hearsWhole_43]; simp (disch := first | assumption | omega | (simp only [upr_f, upr_eq]; first | assumption | omega)) only [B_X11_hearsWhole_0, B_X11_hearsWhole_8, B_X11_hearsWhole_11, B_X11_hearsWhole_21, B_X11_hearsWhole_28, B_X11_hearsWhole_34, B_X11_hearsWhole_41, B_X11_hearsWhole_82, B_X11_hearsWhole_93, B_X11_hearsWhole_96, Option.bind_some, back_v, Option.toList_some, Option.toList_none, List.cons_append, List.nil_append, Nat.reduceAdd, Int.reduceToNat, Int.reduceNeg, upm_eq, upm_r, upm_i, if_pos, if_neg, ite_self, true_or, or_true, true_and, and_true, false_or, or_false, false_and, and_false, wr_id, i10, i01, upr_f, upr_eq, upm_upr, upr_upr, lc_lt, lc_gt, lc_ge, lc_le, afit1, afit0, afitI, bifit, not_true_eq_false, not_false_eq_true, if_true, if_false, Bool.false_eq_true, reduceCtorEq, k1557, k1558, g1557_2, itA]
  | succ d ih =>
    intro x v s h0 h hs; rw [B_X11_hearsWhole_43]
    have e1 : blk s0 i.toNat (11 + 5 * x + 4).toNat = s (1150 + 71 * i + 11 + 5 * x + 4).toNat := by
      rw [← sameOut_blk hs hl, blk_at (by omega)]; congr 1; omega
    by_cases hc : mOf s l x 4 ≤ s (1150 + 71 * i + 11 + 5 * x + 4).toNat
    · simp (disch := first | assumption | omega | (simp only [upr_f, upr_eq]; first | assumption | omega)) only [B_X11_hearsWhole_0, B_X11_hearsWhole_8, B_X11_hearsWhole_11, B_X11_hearsWhole_21, B_X11_hearsWhole_28, B_X11_hearsWhole_34, B_X11_hearsWhole_41, B_X11_hearsWhole_82, B_X11_hearsWhole_93, B_X11_hearsWhole_96, Option.bind_some, back_v, Option.toList_some, Option.toList_none, List.cons_append, List.nil_append, Nat.reduceAdd, Int.reduceToNat, Int.reduceNeg, upm_eq, upm_r, upm_i, if_pos, if_neg, ite_self, true_or, or_true, true_and, and_true, false_or, or_false, false_and, and_false, wr_id, i10, i01, upr_f, upr_eq, upm_upr, upr_upr, lc_lt, lc_gt, lc_ge, lc_le, afit1, afit0, afitI, bifit, not_true_eq_false, not_false_eq_true, if_true, if_false, Bool.false_eq_true, reduceCtorEq, k1557, k1558, g1557_2, M_of, M_slotOf, M_laysSlot, itA, mHearWk, e1]
      rw [show a_cpy s s (1150 + 71 * i + 11 + 5 * x).toNat (16 + 60 * (l + 1) + 5 * x).toNat 5 = a_cpy (blk s0 i.toNat) s (11 + 5 * x).toNat (16 + 60 * (l + 1) + 5 * x).toNat 5 from
        cpy_src fun c hc => by rw [← sameOut_blk hs hl, blk_at (by omega)]; congr 1; omega]
      exact ih _ _ _ (by omega) (by omega) (hs.trans (sameOut_cpy (by omega) (by omega)))
    · simp (disch := first | assumption | omega | (simp only [upr_f, upr_eq]; first | assumption | omega)) only [B_X11_hearsWhole_0, B_X11_hearsWhole_8, B_X11_hearsWhole_11, B_X11_hearsWhole_21, B_X11_hearsWhole_28, B_X11_hearsWhole_34, B_X11_hearsWhole_41, B_X11_hearsWhole_82, B_X11_hearsWhole_93, B_X11_hearsWhole_96, Option.bind_some, back_v, Option.toList_some, Option.toList_none, List.cons_append, List.nil_append, Nat.reduceAdd, Int.reduceToNat, Int.reduceNeg, upm_eq, upm_r, upm_i, if_pos, if_neg, ite_self, true_or, or_true, true_and, and_true, false_or, or_false, false_and, and_false, wr_id, i10, i01, upr_f, upr_eq, upm_upr, upr_upr, lc_lt, lc_gt, lc_ge, lc_le, afit1, afit0, afitI, bifit, not_true_eq_false, not_false_eq_true, if_true, if_false, Bool.false_eq_true, reduceCtorEq, k1557, k1558, g1557_2, M_of, M_slotOf, itA, mHearWk, e1]
      exact ih _ _ _ (by omega) (by omega) hs
theorem M_hearsWhole {l i : Int} (hl : 0 ≤ l ∧ l ≤ 5) (hi : 0 ≤ i ∧ i < 30) : a_m 203 [a_r 1557, a_i l, a_i i] (K0 L, upr u 1558 s, G a, t) = some (.inl none, (K0 L, upr u 1558 (mHearW s l (blk s i.toNat)), G a, t)) := by
  have e1 : mAi s i 1 = blk s i.toNat 1 := mAi_blk hi.1 (by decide)
  have e2 : mAi (mHearN s l (blk s i.toNat 1)) i 1 = blk s i.toNat 1 := by
    rw [mAi_blk hi.1 (by decide), sameOut_blk (sameOut_N hl.1) hl]; rfl
  simp (disch := first | assumption | omega | (simp only [upr_f, upr_eq]; first | assumption | omega)) only [E_X11_hearsWhole, B_X11_hearsWhole_0, B_X11_hearsWhole_8, B_X11_hearsWhole_11, B_X11_hearsWhole_21, B_X11_hearsWhole_28, B_X11_hearsWhole_34, B_X11_hearsWhole_41, B_X11_hearsWhole_82, B_X11_hearsWhole_93, B_X11_hearsWhole_96, Option.bind_some, back_v, Option.toList_some, Option.toList_none, List.cons_append, List.nil_append, Nat.reduceAdd, Int.reduceToNat, Int.reduceNeg, upm_eq, upm_r, upm_i, if_pos, if_neg, ite_self, true_or, or_true, true_and, and_true, false_or, or_false, false_and, and_false, wr_id, i10, i01, upr_f, upr_eq, upm_upr, upr_upr, lc_lt, lc_gt, lc_ge, lc_le, afit1, afit0, afitI, bifit, not_true_eq_false, not_false_eq_true, if_true, if_false, Bool.false_eq_true, reduceCtorEq, k1557, k1558, g1557_2, M_ofAir, M_hearsNumber, M_ofListener, M_putsListener, M_grows, e1, e2]
  exact M_hearsWhole_loop hl hi 12 0 _ (mHearW0 s l (blk s i.toNat 1)) (by decide) (by decide) (sameOut_W0 hl.1)
theorem M_hears {l i : Int} (hl : 0 ≤ l ∧ l ≤ 5) (hi : 0 ≤ i ∧ i < 30) (hn : blk s i.toNat 0 ≠ 1 → 1 ≤ blk s i.toNat 1 ∧ blk s i.toNat 1 ≤ 99 ∧ 0 ≤ mCo s (blk s i.toNat 1) 0 ∧ mCo s (blk s i.toNat 1) 0 < 12) : a_m 204 [a_r 1557, a_i l, a_i i] (K0 L, upr u 1558 s, G a, t) = some (.inl none, (K0 L, upr u 1558 (mStep l false s (blk s i.toNat)), G a, t)) := by
  have e0 : mAi s i 0 = blk s i.toNat 0 := mAi_blk hi.1 (by decide)
  have e1 : mAi s i 1 = blk s i.toNat 1 := mAi_blk hi.1 (by decide)
  by_cases h : blk s i.toNat 0 = 1
  · simp (disch := first | assumption | omega | (simp only [upr_f, upr_eq]; first | assumption | omega)) only [E_X11_hears, B_X11_hears_0, B_X11_hears_6, B_X11_hears_27, B_X11_hears_16, B_X11_hears_30, Option.bind_some, back_v, Option.toList_some, Option.toList_none, List.cons_append, List.nil_append, Nat.reduceAdd, Int.reduceToNat, Int.reduceNeg, upm_eq, upm_r, upm_i, if_pos, if_neg, ite_self, true_or, or_true, true_and, and_true, false_or, or_false, false_and, and_false, wr_id, i10, i01, upr_f, upr_eq, upm_upr, upr_upr, lc_lt, lc_gt, lc_ge, lc_le, afit1, afit0, afitI, bifit, not_true_eq_false, not_false_eq_true, if_true, if_false, Bool.false_eq_true, reduceCtorEq, k1557, k1558, g1557_2, M_ofAir, M_hearsWhole, e0, mStep, h]
  · obtain ⟨a1, a2, a3, a4⟩ := hn h
    simp (disch := first | assumption | omega | (simp only [upr_f, upr_eq]; first | assumption | omega)) only [E_X11_hears, B_X11_hears_0, B_X11_hears_6, B_X11_hears_27, B_X11_hears_16, B_X11_hears_30, Option.bind_some, back_v, Option.toList_some, Option.toList_none, List.cons_append, List.nil_append, Nat.reduceAdd, Int.reduceToNat, Int.reduceNeg, upm_eq, upm_r, upm_i, if_pos, if_neg, ite_self, true_or, or_true, true_and, and_true, false_or, or_false, false_and, and_false, wr_id, i10, i01, upr_f, upr_eq, upm_upr, upr_upr, lc_lt, lc_gt, lc_ge, lc_le, afit1, afit0, afitI, bifit, not_true_eq_false, not_false_eq_true, if_true, if_false, Bool.false_eq_true, reduceCtorEq, k1557, k1558, g1557_2, M_ofAir, M_hearsCorrection, e0, e1, mStep, h]
theorem M_airs {w n len : Int} (hw : w = 0 ∨ w = 1) (h4 : 0 ≤ s 4 ∧ s 4 < 30) (h3 : 0 ≤ s 3 ∧ s 3 ≤ 6) (h7 : 0 ≤ s 7 ∧ s 7 < 1000000) (h1 : 0 ≤ s 1 ∧ s 1 ≤ 20000) (hlen : 0 ≤ len ∧ len ≤ 20) (hd : ∀ l, 0 ≤ l → l < s 3 → 0 ≤ mLi s l 0 ∧ mLi s l 0 ≤ 9) : a_m 193 [a_r 1557, a_i w, a_i n, a_i len] (K0 L, upr u 1558 s, G a, t) = some (.inl none, (K0 L, upr u 1558 (mAirs s w n len), G a, t)) := by
  simp (disch := first | assumption | omega | (simp only [upr_f, upr_eq]; first | assumption | omega)) only [E_X11_airs, B_X11_airs_0, B_X11_airs_123, Option.bind_some, back_v, Option.toList_some, Option.toList_none, List.cons_append, List.nil_append, Nat.reduceAdd, Int.reduceToNat, Int.reduceNeg, upm_eq, upm_r, upm_i, if_pos, if_neg, ite_self, true_or, or_true, true_and, and_true, false_or, or_false, false_and, and_false, wr_id, i10, i01, upr_f, upr_eq, upm_upr, upr_upr, lc_lt, lc_gt, lc_ge, lc_le, afit1, afit0, afitI, bifit, not_true_eq_false, not_false_eq_true, if_true, if_false, Bool.false_eq_true, reduceCtorEq, k1557, k1558, g1557_2, up1_ne]
  have f0 : up1 s (1150 + 71 * s 4 + 0).toNat w = airF s w n len 1 := by
    have := airF1 (s := s) (w := w) (n := n) (len := len) (c := 0) (j := (1150 + 71 * s 4 + 0).toNat) (by omega)
    rw [airF0] at this; exact this
  have f1 : up1 (airF s w n len 1) (1150 + 71 * s 4 + 1).toNat n = airF s w n len 2 := airF1 (c := 1) (by omega)
  have f2 : up1 (airF s w n len 2) (1150 + 71 * s 4 + 2).toNat (s 1) = airF s w n len 3 := airF1 (c := 2) (by omega)
  have f3 : up1 (airF s w n len 3) (1150 + 71 * s 4 + 3).toNat len = airF s w n len 4 := airF1 (c := 3) (by omega)
  have f4 : up1 (airF s w n len 4) (1150 + 71 * s 4 + 4).toNat (s 7) = airF s w n len 5 := airF1 (c := 4) (by omega)
  rw [f0, f1, f2, f3, f4]
  have key := it_fwd (n := 6) (P := fun i : Nat => a_X 193 79 [a_r 1557, a_i w, a_i n, a_i len, a_i (1150 + 71 * s 4), a_i (i : Int)] [] (K0 L, upr u 1558 (airF s w n len (5 + i)), G a, t)) (fun i hi => by
    rw [B_X11_airs_79]
    by_cases hc : (i : Int) < s 3
    · have hd1 := hd i (by omega) hc
      simp (disch := first | assumption | omega | (simp only [upr_f, upr_eq]; first | assumption | omega)) only [B_X11_airs_0, B_X11_airs_123, Option.bind_some, back_v, Option.toList_some, Option.toList_none, List.cons_append, List.nil_append, Nat.reduceAdd, Int.reduceToNat, Int.reduceNeg, upm_eq, upm_r, upm_i, if_pos, if_neg, ite_self, true_or, or_true, true_and, and_true, false_or, or_false, false_and, and_false, wr_id, i10, i01, upr_f, upr_eq, upm_upr, upr_upr, lc_lt, lc_gt, lc_ge, lc_le, afit1, afit0, afitI, bifit, not_true_eq_false, not_false_eq_true, if_true, if_false, Bool.false_eq_true, reduceCtorEq, k1557, k1558, g1557_2, airF_lo, M_ofListener, airF_li]
      rw [show s 1 + len + mLi s (i : Int) 0 = airC s w n len (5 + i) from by rw [airC_due hi, if_pos hc], airF1 (by omega)]
      rfl
    · simp (disch := first | assumption | omega | (simp only [upr_f, upr_eq]; first | assumption | omega)) only [B_X11_airs_0, B_X11_airs_123, Option.bind_some, back_v, Option.toList_some, Option.toList_none, List.cons_append, List.nil_append, Nat.reduceAdd, Int.reduceToNat, Int.reduceNeg, upm_eq, upm_r, upm_i, if_pos, if_neg, ite_self, true_or, or_true, true_and, and_true, false_or, or_false, false_and, and_false, wr_id, i10, i01, upr_f, upr_eq, upm_upr, upr_upr, lc_lt, lc_gt, lc_ge, lc_le, afit1, afit0, afitI, bifit, not_true_eq_false, not_false_eq_true, if_true, if_false, Bool.false_eq_true, reduceCtorEq, k1557, k1558, g1557_2, airF_lo, M_ofListener, airF_li]
      rw [show (-1 : Int) = airC s w n len (5 + i) from by rw [airC_due hi, if_neg hc], airF1 (by omega)]
      rfl)
  refine (show _ = _ from key).trans ?_
  rw [B_X11_airs_79]
  simp (disch := first | assumption | omega | (simp only [upr_f, upr_eq]; first | assumption | omega)) only [B_X11_airs_0, B_X11_airs_123, Option.bind_some, back_v, Option.toList_some, Option.toList_none, List.cons_append, List.nil_append, Nat.reduceAdd, Int.reduceToNat, Int.reduceNeg, upm_eq, upm_r, upm_i, if_pos, if_neg, ite_self, true_or, or_true, true_and, and_true, false_or, or_false, false_and, and_false, wr_id, i10, i01, upr_f, upr_eq, upm_upr, upr_upr, lc_lt, lc_gt, lc_ge, lc_le, afit1, afit0, afitI, bifit, not_true_eq_false, not_false_eq_true, if_true, if_false, Bool.false_eq_true, reduceCtorEq, k1557, k1558, g1557_2]
  have key2 := it_fwd (n := 60) (P := fun i : Nat => a_X 193 138 [a_r 1557, a_i w, a_i n, a_i len, a_i (1150 + 71 * s 4), a_i (i : Int)] [] (K0 L, upr u 1558 (airF s w n len (11 + i)), G a, t)) (fun i hi => by
    rw [B_X11_airs_138]
    rcases hw with hw | hw
    · simp (disch := first | assumption | omega | (simp only [upr_f, upr_eq]; first | assumption | omega)) only [B_X11_airs_0, B_X11_airs_123, Option.bind_some, back_v, Option.toList_some, Option.toList_none, List.cons_append, List.nil_append, Nat.reduceAdd, Int.reduceToNat, Int.reduceNeg, upm_eq, upm_r, upm_i, if_pos, if_neg, ite_self, true_or, or_true, true_and, and_true, false_or, or_false, false_and, and_false, wr_id, i10, i01, upr_f, upr_eq, upm_upr, upr_upr, lc_lt, lc_gt, lc_ge, lc_le, afit1, afit0, afitI, bifit, not_true_eq_false, not_false_eq_true, if_true, if_false, Bool.false_eq_true, reduceCtorEq, k1557, k1558, g1557_2]
      rw [show (0 : Int) = airC s w n len (11 + i) from by rw [airC_list hi, if_neg (by omega)], airF1 (by omega)]
      rfl
    · simp (disch := first | assumption | omega | (simp only [upr_f, upr_eq]; first | assumption | omega)) only [B_X11_airs_0, B_X11_airs_123, Option.bind_some, back_v, Option.toList_some, Option.toList_none, List.cons_append, List.nil_append, Nat.reduceAdd, Int.reduceToNat, Int.reduceNeg, upm_eq, upm_r, upm_i, if_pos, if_neg, ite_self, true_or, or_true, true_and, and_true, false_or, or_false, false_and, and_false, wr_id, i10, i01, upr_f, upr_eq, upm_upr, upr_upr, lc_lt, lc_gt, lc_ge, lc_le, afit1, afit0, afitI, bifit, not_true_eq_false, not_false_eq_true, if_true, if_false, Bool.false_eq_true, reduceCtorEq, k1557, k1558, g1557_2, airF_lo]
      rw [show s (16 + (i : Int)).toNat = airC s w n len (11 + i) from by rw [airC_list hi, if_pos hw]; congr 1, airF1 (by omega)]
      rfl)
  refine (show _ = _ from key2).trans ?_
  rw [B_X11_airs_138]
  simp (disch := first | assumption | omega | (simp only [upr_f, upr_eq]; first | assumption | omega)) only [B_X11_airs_0, B_X11_airs_123, Option.bind_some, back_v, Option.toList_some, Option.toList_none, List.cons_append, List.nil_append, Nat.reduceAdd, Int.reduceToNat, Int.reduceNeg, upm_eq, upm_r, upm_i, if_pos, if_neg, ite_self, true_or, or_true, true_and, and_true, false_or, or_false, false_and, and_false, wr_id, i10, i01, upr_f, upr_eq, upm_upr, upr_upr, lc_lt, lc_gt, lc_ge, lc_le, afit1, afit0, afitI, bifit, not_true_eq_false, not_false_eq_true, if_true, if_false, Bool.false_eq_true, reduceCtorEq, k1557, k1558, g1557_2, airF_lo, up1_ne, mAirs]
end M4
