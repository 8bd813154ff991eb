/-! ===== words and numbers, on both sides at once ===== -/
def wdF (B l : Nat → Int) (f : Int) : Nat → Int → Bool
  | 0, _ => true
  | d + 1, x => decide (B (f + x).toNat = l x.toNat) && wdF B l f d (x + 1)
def txtF (i : Nat) : Nat → Int := fun j => (c_txt.getD i []).getD j 0
def txtN (i : Nat) : Nat := (c_txt.getD i []).length
section WD
variable {L : Nat} {a : Nat → Nat → Nat} {t : Nat × Nat × Nat}
/-- both sides stand at the same place of the same bytes -/
def PT0 (v w : Nat → Nat → Int) (N : Int) (B : Nat → Int) : Prop := v 19 4 = N ∧ v 20 = B ∧ w 1557 10 = N ∧ w 1561 = B ∧ byOK v N B ∧ (0 ≤ v 19 5 ∧ v 19 5 ≤ N) ∧ w 1557 11 = v 19 5 ∧ v 19 2 = 0 ∧ v 19 3 = -1
def PT (v w : Nat → Nat → Int) (N : Int) (B : Nat → Int) : Prop := PT0 v w N B ∧ (0 ≤ v 19 7 ∧ v 19 7 ≤ v 19 5) ∧ w 1557 12 = v 19 7 ∧ w 1557 13 = v 19 6 ∧ (v 19 6 = 2 → w 1557 14 = v 19 8)
/-- both sides say the same error -/
def PF0 (v w : Nat → Nat → Int) : Prop := w 1557 15 = v 19 2 ∧ w 1557 16 = v 19 3 ∧ w 1557 15 ≠ 0
def cTk2 (u u' : Nat → Nat → Int) : Prop := (∀ q, q ≠ 19 → u' q = u q) ∧ ∀ j, j ≠ 2 → j ≠ 3 → j ≠ 5 → j ≠ 6 → j ≠ 7 → j ≠ 8 → j ≠ 9 → u' 19 j = u 19 j
theorem cTk2.refl {u : Nat → Nat → Int} : cTk2 u u := ⟨fun _ _ => rfl, fun _ _ _ _ _ _ _ _ => rfl⟩
theorem cTk2.trans {u v w : Nat → Nat → Int} (h : cTk2 u v) (h2 : cTk2 v w) : cTk2 u w := ⟨fun q hq => (h2.1 q hq).trans (h.1 q hq), fun j a b c d e f g => (h2.2 j a b c d e f g).trans (h.2 j a b c d e f g)⟩
theorem cTk2_up {u : Nat → Nat → Int} {j : Nat} {x : Int} (hj : j = 2 ∨ j = 3 ∨ j = 5 ∨ j = 6 ∨ j = 7 ∨ j = 8 ∨ j = 9) : cTk2 u (upm u 19 j x) := ⟨fun q hq => upm_rf hq, fun i a b c d e f g => upm_i (by omega)⟩
theorem cTk.two {u u' : Nat → Nat → Int} (h : cTk u u') : cTk2 u u' := ⟨h.1, fun j a b c d e f g => h.2 j c d e f⟩
def mTk2 (u u' : Nat → Nat → Int) : Prop := (∀ q, q ≠ 1557 → u' q = u q) ∧ ∀ j, j ≠ 11 → j ≠ 12 → j ≠ 13 → j ≠ 14 → j ≠ 15 → j ≠ 16 → u' 1557 j = u 1557 j
theorem mTk2.refl {u : Nat → Nat → Int} : mTk2 u u := ⟨fun _ _ => rfl, fun _ _ _ _ _ _ _ => rfl⟩
theorem mTk2.trans {u v w : Nat → Nat → Int} (h : mTk2 u v) (h2 : mTk2 v w) : mTk2 u w := ⟨fun q hq => (h2.1 q hq).trans (h.1 q hq), fun j a b c d e f => (h2.2 j a b c d e f).trans (h.2 j a b c d e f)⟩
theorem mTk2_up {u : Nat → Nat → Int} {j : Nat} {x : Int} (hj : j = 15 ∨ j = 16) : mTk2 u (upm u 1557 j x) := ⟨fun q hq => upm_rf hq, fun i a b c d e f => upm_i (by omega)⟩
theorem mTk.two {u u' : Nat → Nat → Int} (h : mTk u u') : mTk2 u u' := ⟨h.1, fun j a b c d e f => h.2 j a b c d⟩
theorem PT_next {v w : Nat → Nat → Int} {N : Int} {B : Nat → Int} (h : PT0 v w N B) : ∃ v' w', a_m 64 [a_r 19] (K0 L, v, G a, t) = some (.inl none, (K0 L, v', G a, t)) ∧ a_m 182 [a_r 1557] (K0 L, w, G a, t) = some (.inl none, (K0 L, w', G a, t)) ∧ cTk v v' ∧ mTk w w' ∧ PT v' w' N B ∧ v 19 5 ≤ v' 19 5 ∧ (v' 19 6 ≠ 0 → v 19 5 < v' 19 5) := by
  obtain ⟨h1, h2, h3, h4, hb, ⟨h5, h6⟩, h7, hz2, hz3⟩ := h
  obtain ⟨v', c0, c1, c2, c3, c4, c5⟩ := C_advance (L := L) (a := a) (t := t) h1 h2 hb h5 h6 rfl
  obtain ⟨w', m0, m1, m2, m3, m4, m5⟩ := M_token (L := L) (a := a) (t := t) h3 h4 hb h5 h6 h7
  have hf := tokF_rng (B := B) h6
  have he := tokE_rng (B := B) hf.2
  refine ⟨v', w', c0, m0, c1, m1, ⟨⟨?_, ?_, ?_, ?_, hb, ?_, ?_, ?_, ?_⟩, ?_, ?_, ?_, ?_⟩, ?_, ?_⟩
  · rw [c1.2 4 (by decide) (by decide) (by decide) (by decide)]; exact h1
  · rw [c1.1 20 (by decide)]; exact h2
  · rw [m1.2 10 (by decide) (by decide) (by decide) (by decide)]; exact h3
  · rw [m1.1 1561 (by decide)]; exact h4
  · rw [c3]; omega
  · rw [m3, c3]
  · rw [c1.2 2 (by decide) (by decide) (by decide) (by decide)]; exact hz2
  · rw [c1.2 3 (by decide) (by decide) (by decide) (by decide)]; exact hz3
  · rw [c2, c3]; omega
  · rw [m2, c2]
  · rw [m4, c4]
  · intro h9; rw [c4] at h9; rw [m5 h9, c5 h9]
  · rw [c3]; omega
  · intro h9
    rw [c4] at h9
    have : tokF B N (v 19 5) < N := by
      refine Classical.byContradiction fun h10 => h9 ?_
      unfold tokS; rw [if_pos (by omega)]
    have := tokE_lt (B := B) this
    rw [c3]; omega
theorem C_isWord_loop {v : Nat → Nat → Int} {N : Int} {B : Nat → Int} {i : Nat} {f : Int} (hi : i < 8) (hs : strOK v) (hN : v 19 4 = N) (hB : v 20 = B) (hb : byOK v N B) (h7 : v 19 7 = f) (h0 : 0 ≤ f) (h1 : f + txtN i ≤ N) : ∀ (d : Nat) (x : Int), 0 ≤ x → x + d = txtN i → a_X 63 28 [a_r 19, a_r (2 * i + 1), a_i x] [] (K0 L, v, G a, t) = some (.inl (some (a_i (bi (wdF B (txtF i) f d x)))), (K0 L, v, G a, t)) := by
  intro d
  have hl := J_length (L := L) (a := a) (t := t) hi hs
  have k1 := kSt1 (L := L) hi
  obtain ⟨b1, b2, b3⟩ := hb
  induction d with
  | zero =>
    intro x x0 hx
    rw [wdF, bi_t]
    unfold txtN at hx
    rw [B_X5_isWord_28]
    simp (disch := first | assumption | omega) only [k19, k20, g19_0, B_X5_isWord_0, B_X5_isWord_21, B_X5_isWord_33, B_X5_isWord_52, Option.bind_some, back_v, Option.toList_some, Option.toList_none, List.cons_append, List.nil_append, Nat.reduceAdd, Int.reduceToNat, Int.reduceNeg, upm_eq, upm_r, upm_i, if_pos, if_neg, ite_self, true_or, or_true, true_and, and_true, false_or, or_false, false_and, and_false, wr_id, i10, i01, upr_f, upr_eq, thr58, upm_upr, upr_upr, lc_lt, lc_gt, lc_ge, lc_le, afit1, afit0, afitI, bifit, not_true_eq_false, not_false_eq_true, if_true, if_false, Bool.false_eq_true, reduceCtorEq, k1557, k1558, g1557_2, hl, k1]
  | succ d ih =>
    intro x x0 hx
    have hi2 := ih (x + 1) (by omega) (by omega)
    unfold txtN at hx h1
    have hc := J_charAt (L := L) (a := a) (t := t) (j := x) hi hs ⟨x0, by omega⟩
    have hx2 : x < (c_txt.getD i []).length := by omega
    have hle := txt_len i hi
    rw [wdF]
    rw [show (c_txt.getD i []).getD x.toNat 0 = txtF i x.toNat from rfl] at hc
    generalize (c_txt.getD i []).length = n at *
    rw [B_X5_isWord_28]
    by_cases he : B (f + x).toNat = txtF i x.toNat
    · have : decide (B (f + x).toNat = txtF i x.toNat) = true := decide_eq_true he
      rw [this, Bool.true_and]
      simp (disch := first | assumption | omega) only [k19, k20, g19_0, B_X5_isWord_0, B_X5_isWord_21, B_X5_isWord_33, B_X5_isWord_52, Option.bind_some, back_v, Option.toList_some, Option.toList_none, List.cons_append, List.nil_append, Nat.reduceAdd, Int.reduceToNat, Int.reduceNeg, upm_eq, upm_r, upm_i, if_pos, if_neg, ite_self, true_or, or_true, true_and, and_true, false_or, or_false, false_and, and_false, wr_id, i10, i01, upr_f, upr_eq, thr58, upm_upr, upr_upr, lc_lt, lc_gt, lc_ge, lc_le, afit1, afit0, afitI, bifit, not_true_eq_false, not_false_eq_true, if_true, if_false, Bool.false_eq_true, reduceCtorEq, k1557, k1558, g1557_2, hl, k1, hc, h7, hB, he, hi2]
    · have : decide (B (f + x).toNat = txtF i x.toNat) = false := decide_eq_false he
      rw [this, Bool.false_and, bi_f]
      simp (disch := first | assumption | omega) only [k19, k20, g19_0, B_X5_isWord_0, B_X5_isWord_21, B_X5_isWord_33, B_X5_isWord_52, Option.bind_some, back_v, Option.toList_some, Option.toList_none, List.cons_append, List.nil_append, Nat.reduceAdd, Int.reduceToNat, Int.reduceNeg, upm_eq, upm_r, upm_i, if_pos, if_neg, ite_self, true_or, or_true, true_and, and_true, false_or, or_false, false_and, and_false, wr_id, i10, i01, upr_f, upr_eq, thr58, upm_upr, upr_upr, lc_lt, lc_gt, lc_ge, lc_le, afit1, afit0, afitI, bifit, not_true_eq_false, not_false_eq_true, if_true, if_false, Bool.false_eq_true, reduceCtorEq, k1557, k1558, g1557_2, hl, k1, hc, h7, hB, he]
/-- what the word at the token says -/
def isW (v : Nat → Nat → Int) (B : Nat → Int) (i : Nat) : Bool := decide (v 19 6 = 1) && (decide (v 19 5 - v 19 7 = txtN i) && wdF B (txtF i) (v 19 7) (txtN i) 0)
theorem C_isWord {v w : Nat → Nat → Int} {N : Int} {B : Nat → Int} {i r : Nat} (hr : r = 2 * i + 1) (hi : i < 8) (hs : strOK v) (h : PT v w N B) : a_m 63 [a_r 19, a_r r] (K0 L, v, G a, t) = some (.inl (some (a_i (bi (isW v B i)))), (K0 L, v, G a, t)) := by
  subst hr
  obtain ⟨⟨h1, h2, h3, h4, hb, ⟨h5, h6⟩, h7, hz2, hz3⟩, ⟨h8, h9⟩, h10, h11, h12⟩ := h
  have hl := J_length (L := L) (a := a) (t := t) hi hs
  have k1 := kSt1 (L := L) hi
  unfold isW
  by_cases e1 : v 19 6 = 1
  · rw [decide_eq_true e1, Bool.true_and]
    by_cases e2 : v 19 5 - v 19 7 = txtN i
    · rw [decide_eq_true e2, Bool.true_and]
      have := C_isWord_loop (L := L) (a := a) (t := t) hi hs h1 h2 hb rfl h8 (by omega) (txtN i) 0 (by decide) (by omega)
      rw [← this]
      obtain ⟨b1, b2, b3⟩ := hb
      unfold txtN at e2
      generalize (c_txt.getD i []).length = n at *
      simp (disch := first | assumption | omega) only [k19, k20, g19_0, E_X5_isWord, B_X5_isWord_0, B_X5_isWord_21, B_X5_isWord_33, B_X5_isWord_52, Option.bind_some, back_v, Option.toList_some, Option.toList_none, List.cons_append, List.nil_append, Nat.reduceAdd, Int.reduceToNat, Int.reduceNeg, upm_eq, upm_r, upm_i, if_pos, if_neg, ite_self, true_or, or_true, true_and, and_true, false_or, or_false, false_and, and_false, wr_id, i10, i01, upr_f, upr_eq, thr58, upm_upr, upr_upr, lc_lt, lc_gt, lc_ge, lc_le, afit1, afit0, afitI, bifit, not_true_eq_false, not_false_eq_true, if_true, if_false, Bool.false_eq_true, reduceCtorEq, k1557, k1558, g1557_2, hl, k1, e1, e2]
    · rw [decide_eq_false e2, Bool.false_and, bi_f]
      obtain ⟨b1, b2, b3⟩ := hb
      unfold txtN at e2
      generalize (c_txt.getD i []).length = n at *
      simp (disch := first | assumption | omega) only [k19, k20, g19_0, E_X5_isWord, B_X5_isWord_0, B_X5_isWord_21, B_X5_isWord_33, B_X5_isWord_52, Option.bind_some, back_v, Option.toList_some, Option.toList_none, List.cons_append, List.nil_append, Nat.reduceAdd, Int.reduceToNat, Int.reduceNeg, upm_eq, upm_r, upm_i, if_pos, if_neg, ite_self, true_or, or_true, true_and, and_true, false_or, or_false, false_and, and_false, wr_id, i10, i01, upr_f, upr_eq, thr58, upm_upr, upr_upr, lc_lt, lc_gt, lc_ge, lc_le, afit1, afit0, afitI, bifit, not_true_eq_false, not_false_eq_true, if_true, if_false, Bool.false_eq_true, reduceCtorEq, k1557, k1558, g1557_2, hl, k1, e1, e2]
  · rw [decide_eq_false e1, Bool.false_and, bi_f]
    simp (disch := first | assumption | omega) only [k19, k20, g19_0, E_X5_isWord, B_X5_isWord_0, B_X5_isWord_21, B_X5_isWord_33, B_X5_isWord_52, Option.bind_some, back_v, Option.toList_some, Option.toList_none, List.cons_append, List.nil_append, Nat.reduceAdd, Int.reduceToNat, Int.reduceNeg, upm_eq, upm_r, upm_i, if_pos, if_neg, ite_self, true_or, or_true, true_and, and_true, false_or, or_false, false_and, and_false, wr_id, i10, i01, upr_f, upr_eq, thr58, upm_upr, upr_upr, lc_lt, lc_gt, lc_ge, lc_le, afit1, afit0, afitI, bifit, not_true_eq_false, not_false_eq_true, if_true, if_false, Bool.false_eq_true, reduceCtorEq, k1557, k1558, g1557_2, e1]
theorem M_isWord_loop {v : Nat → Nat → Int} {N : Int} {B : Nat → Int} {i : Nat} {f : Int} (hi : i < 8) (hs : strOK v) (hN : v 1557 10 = N) (hB : v 1561 = B) (hb : byOK v N B) (h7 : v 1557 12 = f) (h0 : 0 ≤ f) (h1 : f + txtN i ≤ N) : ∀ (d : Nat) (x : Int), 0 ≤ x → x + d = txtN i → a_X 186 35 [a_r 1557, a_r (2 * i + 1), a_i x] [] (K0 L, v, G a, t) = some (.inl (some (a_i (bi (wdF B (txtF i) f d x)))), (K0 L, v, G a, t)) := by
  intro d
  have hl := J_length (L := L) (a := a) (t := t) hi hs
  have k1 := kSt1 (L := L) hi
  have hb' := hb
  obtain ⟨b1, b2, b3⟩ := hb
  induction d with
  | zero =>
    intro x x0 hx
    rw [wdF, bi_t]
    unfold txtN at hx
    rw [B_X11_isWord_35]
    simp (disch := first | assumption | omega) only [B_X11_isWord_0, B_X11_isWord_28, B_X11_isWord_40, B_X11_isWord_53, B_X11_isWord_58, Option.bind_some, back_v, Option.toList_some, Option.toList_none, List.cons_append, List.nil_append, Nat.reduceAdd, Int.reduceToNat, Int.reduceNeg, upm_eq, upm_r, upm_i, if_pos, if_neg, ite_self, true_or, or_true, true_and, and_true, false_or, or_false, false_and, and_false, wr_id, i10, i01, upr_f, upr_eq, thr58, upm_upr, upr_upr, lc_lt, lc_gt, lc_ge, lc_le, afit1, afit0, afitI, bifit, not_true_eq_false, not_false_eq_true, if_true, if_false, Bool.false_eq_true, reduceCtorEq, k1557, k1558, g1557_2, hl, k1]
  | succ d ih =>
    intro x x0 hx
    have hi2 := ih (x + 1) (by omega) (by omega)
    have hsn := M_seen (L := L) (a := a) (t := t) (p := f + x) hN hB hb' (by omega)
    rw [if_pos (by omega)] at hsn
    unfold txtN at hx h1
    have hc := J_charAt (L := L) (a := a) (t := t) (j := x) hi hs ⟨x0, by omega⟩
    have hx2 : x < (c_txt.getD i []).length := by omega
    have hle := txt_len i hi
    rw [wdF]
    rw [show (c_txt.getD i []).getD x.toNat 0 = txtF i x.toNat from rfl] at hc
    generalize (c_txt.getD i []).length = n at *
    rw [B_X11_isWord_35]
    by_cases he : B (f + x).toNat = txtF i x.toNat
    · have : decide (B (f + x).toNat = txtF i x.toNat) = true := decide_eq_true he
      rw [this, Bool.true_and]
      simp (disch := first | assumption | omega) only [B_X11_isWord_0, B_X11_isWord_28, B_X11_isWord_40, B_X11_isWord_53, B_X11_isWord_58, Option.bind_some, back_v, Option.toList_some, Option.toList_none, List.cons_append, List.nil_append, Nat.reduceAdd, Int.reduceToNat, Int.reduceNeg, upm_eq, upm_r, upm_i, if_pos, if_neg, ite_self, true_or, or_true, true_and, and_true, false_or, or_false, false_and, and_false, wr_id, i10, i01, upr_f, upr_eq, thr58, upm_upr, upr_upr, lc_lt, lc_gt, lc_ge, lc_le, afit1, afit0, afitI, bifit, not_true_eq_false, not_false_eq_true, if_true, if_false, Bool.false_eq_true, reduceCtorEq, k1557, k1558, g1557_2, hl, k1, hc, h7, hsn, he, hi2]
    · have : decide (B (f + x).toNat = txtF i x.toNat) = false := decide_eq_false he
      rw [this, Bool.false_and, bi_f]
      simp (disch := first | assumption | omega) only [B_X11_isWord_0, B_X11_isWord_28, B_X11_isWord_40, B_X11_isWord_53, B_X11_isWord_58, Option.bind_some, back_v, Option.toList_some, Option.toList_none, List.cons_append, List.nil_append, Nat.reduceAdd, Int.reduceToNat, Int.reduceNeg, upm_eq, upm_r, upm_i, if_pos, if_neg, ite_self, true_or, or_true, true_and, and_true, false_or, or_false, false_and, and_false, wr_id, i10, i01, upr_f, upr_eq, thr58, upm_upr, upr_upr, lc_lt, lc_gt, lc_ge, lc_le, afit1, afit0, afitI, bifit, not_true_eq_false, not_false_eq_true, if_true, if_false, Bool.false_eq_true, reduceCtorEq, k1557, k1558, g1557_2, hl, k1, hc, h7, hsn, he]
theorem M_isWord {v w : Nat → Nat → Int} {N : Int} {B : Nat → Int} {i j r : Nat} (hr : r = 2 * j + 1) (hj : j < 8) (hs : strOK w) (h : PT v w N B) (he : w 1557 15 = 0) (hij : c_txt.getD j [] = c_txt.getD i []) : a_m 186 [a_r 1557, a_r r] (K0 L, w, G a, t) = some (.inl (some (a_i (bi (isW v B i)))), (K0 L, w, G a, t)) := by
  subst hr
  obtain ⟨⟨h1, h2, h3, h4, hb, ⟨h5, h6⟩, h7, hz2, hz3⟩, ⟨h8, h9⟩, h10, h11, h12⟩ := h
  have hl := J_length (L := L) (a := a) (t := t) hj hs
  have k1 := kSt1 (L := L) hj
  have en : txtN i = txtN j := by unfold txtN; rw [hij]
  have ef : txtF i = txtF j := by unfold txtF; rw [hij]
  unfold isW
  rw [en, ef]
  by_cases e1 : v 19 6 = 1
  · have e1' := h11.trans e1
    rw [decide_eq_true e1, Bool.true_and]
    by_cases e2 : v 19 5 - v 19 7 = txtN j
    · rw [decide_eq_true e2, Bool.true_and]
      have := M_isWord_loop (L := L) (a := a) (t := t) hj hs h3 h4 hb h10 h8 (by omega) (txtN j) 0 (by decide) (by omega)
      rw [← this]
      obtain ⟨b1, b2, b3⟩ := hb
      unfold txtN at e2
      generalize (c_txt.getD j []).length = n at *
      simp (disch := first | assumption | omega) only [E_X11_isWord, B_X11_isWord_0, B_X11_isWord_28, B_X11_isWord_40, B_X11_isWord_53, B_X11_isWord_58, Option.bind_some, back_v, Option.toList_some, Option.toList_none, List.cons_append, List.nil_append, Nat.reduceAdd, Int.reduceToNat, Int.reduceNeg, upm_eq, upm_r, upm_i, if_pos, if_neg, ite_self, true_or, or_true, true_and, and_true, false_or, or_false, false_and, and_false, wr_id, i10, i01, upr_f, upr_eq, thr58, upm_upr, upr_upr, lc_lt, lc_gt, lc_ge, lc_le, afit1, afit0, afitI, bifit, not_true_eq_false, not_false_eq_true, if_true, if_false, Bool.false_eq_true, reduceCtorEq, k1557, k1558, g1557_2, hl, k1, e1', e2, he, h7, h10]
    · rw [decide_eq_false e2, Bool.false_and, bi_f]
      obtain ⟨b1, b2, b3⟩ := hb
      unfold txtN at e2
      generalize (c_txt.getD j []).length = n at *
      simp (disch := first | assumption | omega) only [E_X11_isWord, B_X11_isWord_0, B_X11_isWord_28, B_X11_isWord_40, B_X11_isWord_53, B_X11_isWord_58, Option.bind_some, back_v, Option.toList_some, Option.toList_none, List.cons_append, List.nil_append, Nat.reduceAdd, Int.reduceToNat, Int.reduceNeg, upm_eq, upm_r, upm_i, if_pos, if_neg, ite_self, true_or, or_true, true_and, and_true, false_or, or_false, false_and, and_false, wr_id, i10, i01, upr_f, upr_eq, thr58, upm_upr, upr_upr, lc_lt, lc_gt, lc_ge, lc_le, afit1, afit0, afitI, bifit, not_true_eq_false, not_false_eq_true, if_true, if_false, Bool.false_eq_true, reduceCtorEq, k1557, k1558, g1557_2, hl, k1, e1', e2, he, h7, h10]
  · have e1' : w 1557 13 ≠ 1 := by rw [h11]; exact e1
    rw [decide_eq_false e1, Bool.false_and, bi_f]
    simp (disch := first | assumption | omega) only [E_X11_isWord, B_X11_isWord_0, B_X11_isWord_28, B_X11_isWord_40, B_X11_isWord_53, B_X11_isWord_58, Option.bind_some, back_v, Option.toList_some, Option.toList_none, List.cons_append, List.nil_append, Nat.reduceAdd, Int.reduceToNat, Int.reduceNeg, upm_eq, upm_r, upm_i, if_pos, if_neg, ite_self, true_or, or_true, true_and, and_true, false_or, or_false, false_and, and_false, wr_id, i10, i01, upr_f, upr_eq, thr58, upm_upr, upr_upr, lc_lt, lc_gt, lc_ge, lc_le, afit1, afit0, afitI, bifit, not_true_eq_false, not_false_eq_true, if_true, if_false, Bool.false_eq_true, reduceCtorEq, k1557, k1558, g1557_2, e1', he]
theorem M_isWord_bad {w : Nat → Nat → Int} {r : Nat} (he : w 1557 15 ≠ 0) : a_m 186 [a_r 1557, a_r r] (K0 L, w, G a, t) = some (.inl (some (a_i (0))), (K0 L, w, G a, t)) := by
  simp (disch := first | assumption | omega) only [E_X11_isWord, B_X11_isWord_0, B_X11_isWord_28, B_X11_isWord_40, B_X11_isWord_53, B_X11_isWord_58, Option.bind_some, back_v, Option.toList_some, Option.toList_none, List.cons_append, List.nil_append, Nat.reduceAdd, Int.reduceToNat, Int.reduceNeg, upm_eq, upm_r, upm_i, if_pos, if_neg, ite_self, true_or, or_true, true_and, and_true, false_or, or_false, false_and, and_false, wr_id, i10, i01, upr_f, upr_eq, thr58, upm_upr, upr_upr, lc_lt, lc_gt, lc_ge, lc_le, afit1, afit0, afitI, bifit, not_true_eq_false, not_false_eq_true, if_true, if_false, Bool.false_eq_true, reduceCtorEq, k1557, k1558, g1557_2, he]
theorem C_fail {v : Nat → Nat → Int} {c : Int} : a_m 59 [a_r 19, a_i c] (K0 L, v, G a, t) = some (.inl (some (a_i (0))), (K0 L, upm (upm v 19 2 c) 19 3 (v 19 7), G a, t)) := by
  simp (disch := first | assumption | omega) only [k19, k20, g19_0, E_X5_fail, B_X5_fail_0, Option.bind_some, back_v, Option.toList_some, Option.toList_none, List.cons_append, List.nil_append, Nat.reduceAdd, Int.reduceToNat, Int.reduceNeg, upm_eq, upm_r, upm_i, if_pos, if_neg, ite_self, true_or, or_true, true_and, and_true, false_or, or_false, false_and, and_false, wr_id, i10, i01, upr_f, upr_eq, thr58, upm_upr, upr_upr, lc_lt, lc_gt, lc_ge, lc_le, afit1, afit0, afitI, bifit, not_true_eq_false, not_false_eq_true, if_true, if_false, Bool.false_eq_true, reduceCtorEq, k1557, k1558, g1557_2]
theorem M_fails {w : Nat → Nat → Int} {c : Int} (he : w 1557 15 = 0) : a_m 183 [a_r 1557, a_i c] (K0 L, w, G a, t) = some (.inl none, (K0 L, upm (upm w 1557 15 c) 1557 16 (w 1557 12), G a, t)) := by
  simp (disch := first | assumption | omega) only [E_X11_fails, B_X11_fails_0, Option.bind_some, back_v, Option.toList_some, Option.toList_none, List.cons_append, List.nil_append, Nat.reduceAdd, Int.reduceToNat, Int.reduceNeg, upm_eq, upm_r, upm_i, if_pos, if_neg, ite_self, true_or, or_true, true_and, and_true, false_or, or_false, false_and, and_false, wr_id, i10, i01, upr_f, upr_eq, thr58, upm_upr, upr_upr, lc_lt, lc_gt, lc_ge, lc_le, afit1, afit0, afitI, bifit, not_true_eq_false, not_false_eq_true, if_true, if_false, Bool.false_eq_true, reduceCtorEq, k1557, k1558, g1557_2, he]
theorem M_fails_bad {w : Nat → Nat → Int} {c : Int} (he : w 1557 15 ≠ 0) : a_m 183 [a_r 1557, a_i c] (K0 L, w, G a, t) = some (.inl none, (K0 L, w, G a, t)) := by
  simp (disch := first | assumption | omega) only [E_X11_fails, B_X11_fails_0, Option.bind_some, back_v, Option.toList_some, Option.toList_none, List.cons_append, List.nil_append, Nat.reduceAdd, Int.reduceToNat, Int.reduceNeg, upm_eq, upm_r, upm_i, if_pos, if_neg, ite_self, true_or, or_true, true_and, and_true, false_or, or_false, false_and, and_false, wr_id, i10, i01, upr_f, upr_eq, thr58, upm_upr, upr_upr, lc_lt, lc_gt, lc_ge, lc_le, afit1, afit0, afitI, bifit, not_true_eq_false, not_false_eq_true, if_true, if_false, Bool.false_eq_true, reduceCtorEq, k1557, k1558, g1557_2, he]
theorem M_goesOn_bad {w : Nat → Nat → Int} (he : w 1557 15 ≠ 0) : a_m 185 [a_r 1557] (K0 L, w, G a, t) = some (.inl none, (K0 L, w, G a, t)) := by
  simp (disch := first | assumption | omega) only [E_X11_goesOn, B_X11_goesOn_0, B_X11_goesOn_11, Option.bind_some, back_v, Option.toList_some, Option.toList_none, List.cons_append, List.nil_append, Nat.reduceAdd, Int.reduceToNat, Int.reduceNeg, upm_eq, upm_r, upm_i, if_pos, if_neg, ite_self, true_or, or_true, true_and, and_true, false_or, or_false, false_and, and_false, wr_id, i10, i01, upr_f, upr_eq, thr58, upm_upr, upr_upr, lc_lt, lc_gt, lc_ge, lc_le, afit1, afit0, afitI, bifit, not_true_eq_false, not_false_eq_true, if_true, if_false, Bool.false_eq_true, reduceCtorEq, k1557, k1558, g1557_2, he]
theorem M_failsIf0 {w : Nat → Nat → Int} {c : Int} : a_m 184 [a_r 1557, a_i 0, a_i c] (K0 L, w, G a, t) = some (.inl none, (K0 L, w, G a, t)) := by
  simp (disch := first | assumption | omega) only [E_X11_failsIf, B_X11_failsIf_0, B_X11_failsIf_9, Option.bind_some, back_v, Option.toList_some, Option.toList_none, List.cons_append, List.nil_append, Nat.reduceAdd, Int.reduceToNat, Int.reduceNeg, upm_eq, upm_r, upm_i, if_pos, if_neg, ite_self, true_or, or_true, true_and, and_true, false_or, or_false, false_and, and_false, wr_id, i10, i01, upr_f, upr_eq, thr58, upm_upr, upr_upr, lc_lt, lc_gt, lc_ge, lc_le, afit1, afit0, afitI, bifit, not_true_eq_false, not_false_eq_true, if_true, if_false, Bool.false_eq_true, reduceCtorEq, k1557, k1558, g1557_2]
theorem M_takes_bad {w : Nat → Nat → Int} {lo hi : Int} (he : w 1557 15 ≠ 0) : a_m 187 [a_r 1557, a_i lo, a_i hi] (K0 L, w, G a, t) = some (.inl (some (a_i (lo))), (K0 L, w, G a, t)) := by
  have hg := M_goesOn_bad (L := L) (a := a) (t := t) he
  have hf1 := M_fails_bad (L := L) (a := a) (t := t) (c := 1) he
  have hf2 := M_fails_bad (L := L) (a := a) (t := t) (c := 2) he
  by_cases h1 : w 1557 13 = 2
  · cases h2 : inB (w 1557 14) lo hi with
    | true => simp (disch := first | assumption | omega) only [E_X11_takes, B_X11_takes_0, B_X11_takes_28, B_X11_takes_13, B_X11_takes_45, B_X11_takes_36, Option.bind_some, back_v, Option.toList_some, Option.toList_none, List.cons_append, List.nil_append, Nat.reduceAdd, Int.reduceToNat, Int.reduceNeg, upm_eq, upm_r, upm_i, if_pos, if_neg, ite_self, true_or, or_true, true_and, and_true, false_or, or_false, false_and, and_false, wr_id, i10, i01, upr_f, upr_eq, thr58, upm_upr, upr_upr, lc_lt, lc_gt, lc_ge, lc_le, afit1, afit0, afitI, bifit, not_true_eq_false, not_false_eq_true, if_true, if_false, Bool.false_eq_true, reduceCtorEq, k1557, k1558, g1557_2, h1, M_in, h2, bi_t, hg, he]
    | false => simp (disch := first | assumption | omega) only [E_X11_takes, B_X11_takes_0, B_X11_takes_28, B_X11_takes_13, B_X11_takes_45, B_X11_takes_36, Option.bind_some, back_v, Option.toList_some, Option.toList_none, List.cons_append, List.nil_append, Nat.reduceAdd, Int.reduceToNat, Int.reduceNeg, upm_eq, upm_r, upm_i, if_pos, if_neg, ite_self, true_or, or_true, true_and, and_true, false_or, or_false, false_and, and_false, wr_id, i10, i01, upr_f, upr_eq, thr58, upm_upr, upr_upr, lc_lt, lc_gt, lc_ge, lc_le, afit1, afit0, afitI, bifit, not_true_eq_false, not_false_eq_true, if_true, if_false, Bool.false_eq_true, reduceCtorEq, k1557, k1558, g1557_2, h1, M_in, h2, bi_f, hf2, hg, he]
  · simp (disch := first | assumption | omega) only [E_X11_takes, B_X11_takes_0, B_X11_takes_28, B_X11_takes_13, B_X11_takes_45, B_X11_takes_36, Option.bind_some, back_v, Option.toList_some, Option.toList_none, List.cons_append, List.nil_append, Nat.reduceAdd, Int.reduceToNat, Int.reduceNeg, upm_eq, upm_r, upm_i, if_pos, if_neg, ite_self, true_or, or_true, true_and, and_true, false_or, or_false, false_and, and_false, wr_id, i10, i01, upr_f, upr_eq, thr58, upm_upr, upr_upr, lc_lt, lc_gt, lc_ge, lc_le, afit1, afit0, afitI, bifit, not_true_eq_false, not_false_eq_true, if_true, if_false, Bool.false_eq_true, reduceCtorEq, k1557, k1558, g1557_2, h1, hf1, hg, he]
theorem PF_fail {v w : Nat → Nat → Int} {N c : Int} {B : Nat → Int} (hc : c ≠ 0) (h : PT v w N B) : PF0 (upm (upm v 19 2 c) 19 3 (v 19 7)) (upm (upm w 1557 15 c) 1557 16 (w 1557 12)) := by
  unfold PF0
  simp only [upm_eq, upm_i (show (15 : Nat) ≠ 16 from by decide), upm_i (show (2 : Nat) ≠ 3 from by decide)]
  exact ⟨trivial, h.2.2.1, hc⟩
theorem takeNum {v w : Nat → Nat → Int} {N lo hi : Int} {B : Nat → Int} (h : PT v w N B) (he : w 1557 15 = 0) : ∃ v' w', cTk2 v v' ∧ mTk2 w w' ∧
    ((∃ x, lo ≤ x ∧ x ≤ hi ∧ a_m 62 [a_r 19, a_i lo, a_i hi] (K0 L, v, G a, t) = some (.inl (some (a_i (1))), (K0 L, v', G a, t)) ∧ a_m 187 [a_r 1557, a_i lo, a_i hi] (K0 L, w, G a, t) = some (.inl (some (a_i (x))), (K0 L, w', G a, t)) ∧ v' 19 9 = x ∧ PT v' w' N B ∧ w' 1557 15 = 0 ∧ v 19 5 ≤ v' 19 5) ∨
     (a_m 62 [a_r 19, a_i lo, a_i hi] (K0 L, v, G a, t) = some (.inl (some (a_i (0))), (K0 L, v', G a, t)) ∧ a_m 187 [a_r 1557, a_i lo, a_i hi] (K0 L, w, G a, t) = some (.inl (some (a_i (lo))), (K0 L, w', G a, t)) ∧ PF0 v' w')) := by
  have h' := h
  obtain ⟨⟨h1, h2, h3, h4, hb, ⟨h5, h6⟩, h7, hz2, hz3⟩, ⟨h8, h9⟩, h10, h11, h12⟩ := h
  have kF : ∀ c : Int, cTk2 v (upm (upm v 19 2 c) 19 3 (v 19 7)) := fun c => (cTk2_up (.inl rfl)).trans (cTk2_up (.inr (.inl rfl)))
  have mF : ∀ c : Int, mTk2 w (upm (upm w 1557 15 c) 1557 16 (w 1557 12)) := fun c => (mTk2_up (.inl rfl)).trans (mTk2_up (.inr rfl))
  have hg : ∀ c : Int, c ≠ 0 → a_m 185 [a_r 1557] (K0 L, upm (upm w 1557 15 c) 1557 16 (w 1557 12), G a, t) = some (.inl none, (K0 L, upm (upm w 1557 15 c) 1557 16 (w 1557 12), G a, t)) := fun c hc => M_goesOn_bad (by rw [upm_i (by decide), upm_eq]; exact hc)
  have hg1 := hg 1 (by decide)
  have hg2 := hg 2 (by decide)
  have hf : ∀ c, a_m 183 [a_r 1557, a_i c] (K0 L, w, G a, t) = some (.inl none, (K0 L, upm (upm w 1557 15 c) 1557 16 (w 1557 12), G a, t)) := fun c => M_fails he
  by_cases e1 : v 19 6 = 2
  · have e1' := h11.trans e1
    have e14 := h12 e1
    by_cases e2 : lo ≤ v 19 8 ∧ v 19 8 ≤ hi
    · have e3 := inB_t e2.1 e2.2
      have e21 := e2.1
      have e22 := e2.2
      have hP : PT0 (upm v 19 9 (v 19 8)) w N B := by
        refine ⟨by rw [upm_i (by decide)]; exact h1, by rw [upm_rf (by decide)]; exact h2, h3, h4, hb, ?_, ?_, ?_, ?_⟩
        · rw [upm_i (by decide)]; exact ⟨h5, h6⟩
        · rw [upm_i (by decide)]; exact h7
        · rw [upm_i (by decide)]; exact hz2
        · rw [upm_i (by decide)]; exact hz3
      obtain ⟨v', w', c0, m0, c1, m1, p1, p2, p3⟩ := PT_next (L := L) (a := a) (t := t) hP
      have e15 : w' 1557 15 = 0 := by rw [m1.2 15 (by decide) (by decide) (by decide) (by decide)]; exact he
      have hgo : a_m 185 [a_r 1557] (K0 L, w, G a, t) = some (.inl none, (K0 L, w', G a, t)) := by simp (disch := first | assumption | omega) only [E_X11_goesOn, B_X11_goesOn_0, B_X11_goesOn_11, Option.bind_some, back_v, Option.toList_some, Option.toList_none, List.cons_append, List.nil_append, Nat.reduceAdd, Int.reduceToNat, Int.reduceNeg, upm_eq, upm_r, upm_i, if_pos, if_neg, ite_self, true_or, or_true, true_and, and_true, false_or, or_false, false_and, and_false, wr_id, i10, i01, upr_f, upr_eq, thr58, upm_upr, upr_upr, lc_lt, lc_gt, lc_ge, lc_le, afit1, afit0, afitI, bifit, not_true_eq_false, not_false_eq_true, if_true, if_false, Bool.false_eq_true, reduceCtorEq, k1557, k1558, g1557_2, he, m0]
      refine ⟨v', w', (cTk2_up (.inr (.inr (.inr (.inr (.inr (.inr rfl))))))).trans c1.two, m1.two, .inl ⟨v 19 8, e2.1, e2.2, ?_, ?_, ?_, p1, e15, ?_⟩⟩
      · simp (disch := first | assumption | omega) only [k19, k20, g19_0, E_X5_takeNumber, B_X5_takeNumber_0, B_X5_takeNumber_35, B_X5_takeNumber_48, B_X5_takeNumber_13, Option.bind_some, back_v, Option.toList_some, Option.toList_none, List.cons_append, List.nil_append, Nat.reduceAdd, Int.reduceToNat, Int.reduceNeg, upm_eq, upm_r, upm_i, if_pos, if_neg, ite_self, true_or, or_true, true_and, and_true, false_or, or_false, false_and, and_false, wr_id, i10, i01, upr_f, upr_eq, thr58, upm_upr, upr_upr, lc_lt, lc_gt, lc_ge, lc_le, afit1, afit0, afitI, bifit, not_true_eq_false, not_false_eq_true, if_true, if_false, Bool.false_eq_true, reduceCtorEq, k1557, k1558, g1557_2, e1, c0]
      · simp (disch := first | assumption | omega) only [E_X11_takes, B_X11_takes_0, B_X11_takes_28, B_X11_takes_13, B_X11_takes_45, B_X11_takes_36, Option.bind_some, back_v, Option.toList_some, Option.toList_none, List.cons_append, List.nil_append, Nat.reduceAdd, Int.reduceToNat, Int.reduceNeg, upm_eq, upm_r, upm_i, if_pos, if_neg, ite_self, true_or, or_true, true_and, and_true, false_or, or_false, false_and, and_false, wr_id, i10, i01, upr_f, upr_eq, thr58, upm_upr, upr_upr, lc_lt, lc_gt, lc_ge, lc_le, afit1, afit0, afitI, bifit, not_true_eq_false, not_false_eq_true, if_true, if_false, Bool.false_eq_true, reduceCtorEq, k1557, k1558, g1557_2, e1', e14, M_in, e3, bi_t, hgo, e15]
      · rw [c1.2 9 (by decide) (by decide) (by decide) (by decide), upm_eq]
      · rw [upm_i (by decide)] at p2; exact p2
    · have e3 : inB (v 19 8) lo hi = false := inB_f (by omega)
      refine ⟨_, _, kF 2, mF 2, .inr ⟨?_, ?_, PF_fail (by decide) h'⟩⟩
      · by_cases e4 : v 19 8 < lo
        · simp (disch := first | assumption | omega) only [k19, k20, g19_0, E_X5_takeNumber, B_X5_takeNumber_0, B_X5_takeNumber_35, B_X5_takeNumber_48, B_X5_takeNumber_13, Option.bind_some, back_v, Option.toList_some, Option.toList_none, List.cons_append, List.nil_append, Nat.reduceAdd, Int.reduceToNat, Int.reduceNeg, upm_eq, upm_r, upm_i, if_pos, if_neg, ite_self, true_or, or_true, true_and, and_true, false_or, or_false, false_and, and_false, wr_id, i10, i01, upr_f, upr_eq, thr58, upm_upr, upr_upr, lc_lt, lc_gt, lc_ge, lc_le, afit1, afit0, afitI, bifit, not_true_eq_false, not_false_eq_true, if_true, if_false, Bool.false_eq_true, reduceCtorEq, k1557, k1558, g1557_2, e1, C_fail]
        · have e5 : ¬ v 19 8 ≤ hi := by omega
          simp (disch := first | assumption | omega) only [k19, k20, g19_0, E_X5_takeNumber, B_X5_takeNumber_0, B_X5_takeNumber_35, B_X5_takeNumber_48, B_X5_takeNumber_13, Option.bind_some, back_v, Option.toList_some, Option.toList_none, List.cons_append, List.nil_append, Nat.reduceAdd, Int.reduceToNat, Int.reduceNeg, upm_eq, upm_r, upm_i, if_pos, if_neg, ite_self, true_or, or_true, true_and, and_true, false_or, or_false, false_and, and_false, wr_id, i10, i01, upr_f, upr_eq, thr58, upm_upr, upr_upr, lc_lt, lc_gt, lc_ge, lc_le, afit1, afit0, afitI, bifit, not_true_eq_false, not_false_eq_true, if_true, if_false, Bool.false_eq_true, reduceCtorEq, k1557, k1558, g1557_2, e1, C_fail]
      · have : (upm (upm w 1557 15 2) 1557 16 (w 1557 12)) 1557 15 = 2 := by rw [upm_i (by decide), upm_eq]
        simp (disch := first | assumption | omega) only [E_X11_takes, B_X11_takes_0, B_X11_takes_28, B_X11_takes_13, B_X11_takes_45, B_X11_takes_36, Option.bind_some, back_v, Option.toList_some, Option.toList_none, List.cons_append, List.nil_append, Nat.reduceAdd, Int.reduceToNat, Int.reduceNeg, upm_eq, upm_r, upm_i, if_pos, if_neg, ite_self, true_or, or_true, true_and, and_true, false_or, or_false, false_and, and_false, wr_id, i10, i01, upr_f, upr_eq, thr58, upm_upr, upr_upr, lc_lt, lc_gt, lc_ge, lc_le, afit1, afit0, afitI, bifit, not_true_eq_false, not_false_eq_true, if_true, if_false, Bool.false_eq_true, reduceCtorEq, k1557, k1558, g1557_2, e1', e14, M_in, e3, bi_f, hf, hg2, this]
  · have e1' : w 1557 13 ≠ 2 := by rw [h11]; exact e1
    refine ⟨_, _, kF 1, mF 1, .inr ⟨?_, ?_, PF_fail (by decide) h'⟩⟩
    · simp (disch := first | assumption | omega) only [k19, k20, g19_0, E_X5_takeNumber, B_X5_takeNumber_0, B_X5_takeNumber_35, B_X5_takeNumber_48, B_X5_takeNumber_13, Option.bind_some, back_v, Option.toList_some, Option.toList_none, List.cons_append, List.nil_append, Nat.reduceAdd, Int.reduceToNat, Int.reduceNeg, upm_eq, upm_r, upm_i, if_pos, if_neg, ite_self, true_or, or_true, true_and, and_true, false_or, or_false, false_and, and_false, wr_id, i10, i01, upr_f, upr_eq, thr58, upm_upr, upr_upr, lc_lt, lc_gt, lc_ge, lc_le, afit1, afit0, afitI, bifit, not_true_eq_false, not_false_eq_true, if_true, if_false, Bool.false_eq_true, reduceCtorEq, k1557, k1558, g1557_2, e1, C_fail]
    · simp (disch := first | assumption | omega) only [E_X11_takes, B_X11_takes_0, B_X11_takes_28, B_X11_takes_13, B_X11_takes_45, B_X11_takes_36, Option.bind_some, back_v, Option.toList_some, Option.toList_none, List.cons_append, List.nil_append, Nat.reduceAdd, Int.reduceToNat, Int.reduceNeg, upm_eq, upm_r, upm_i, if_pos, if_neg, ite_self, true_or, or_true, true_and, and_true, false_or, or_false, false_and, and_false, wr_id, i10, i01, upr_f, upr_eq, thr58, upm_upr, upr_upr, lc_lt, lc_gt, lc_ge, lc_le, afit1, afit0, afitI, bifit, not_true_eq_false, not_false_eq_true, if_true, if_false, Bool.false_eq_true, reduceCtorEq, k1557, k1558, g1557_2, e1', hf, hg1]
end WD
