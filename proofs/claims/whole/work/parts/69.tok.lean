/-! ===== tokens, on both sides ===== -/
def rnF (P : Int → Bool) (B : Nat → Int) (N : Int) : Nat → Int → Int
  | 0, p => p
  | d + 1, p => if p < N ∧ P (B p.toNat) = true then rnF P B N d (p + 1) else p
def isSm (c : Int) : Bool := inB c 97 122
def isDg (c : Int) : Bool := inB c 48 57
def isBl (c : Int) : Bool := decide (c = 32)
def valF (B : Nat → Int) : Nat → Int → Int → Int
  | 0, _, acc => acc
  | d + 1, p, acc => valF B d (p + 1) (10 * acc + B p.toNat - 48)
def tokF (B : Nat → Int) (N p : Int) : Int := rnF isBl B N (N - p).toNat p
def tokE (B : Nat → Int) (N f : Int) : Int := if N ≤ f then f else if isSm (B f.toNat) = true then rnF isSm B N (N - f).toNat f else if isDg (B f.toNat) = true then rnF isDg B N (N - f).toNat f else f + 1
def tokS (B : Nat → Int) (N f : Int) : Int := if N ≤ f then 0 else if isSm (B f.toNat) = true then (if tokE B N f - f ≤ 6 then 1 else 4) else if isDg (B f.toNat) = true then (if tokE B N f - f ≤ 4 then 2 else 4) else if B f.toNat = 59 then 3 else 4
def tokV (B : Nat → Int) (N f : Int) : Int := valF B (tokE B N f - f).toNat f 0
theorem rn_rng {P : Int → Bool} {B : Nat → Int} {N : Int} : ∀ (d : Nat) (p : Int), p ≤ N → p ≤ rnF P B N d p ∧ rnF P B N d p ≤ N := by
  intro d
  induction d with
  | zero => intro p h; exact ⟨Int.le_refl _, h⟩
  | succ d ih =>
    intro p h
    rw [rnF]
    by_cases hc : p < N ∧ P (B p.toNat) = true
    · rw [if_pos hc]; have := ih (p + 1) (by omega); omega
    · rw [if_neg hc]; omega
theorem rn_more {P : Int → Bool} {B : Nat → Int} {N : Int} : ∀ (d e : Nat) (p : Int), N - p ≤ d → N - p ≤ e → rnF P B N d p = rnF P B N e p := by
  intro d
  induction d with
  | zero =>
    intro e p h1 h2
    cases e with
    | zero => rfl
    | succ e => rw [rnF, rnF, if_neg (by omega)]
  | succ d ih =>
    intro e p h1 h2
    cases e with
    | zero => rw [rnF, rnF, if_neg (by omega)]
    | succ e =>
      rw [rnF, rnF]
      by_cases hc : p < N ∧ P (B p.toNat) = true
      · rw [if_pos hc, if_pos hc]; exact ih e _ (by omega) (by omega)
      · rw [if_neg hc, if_neg hc]
theorem tokF_rng {B : Nat → Int} {N p : Int} (h : p ≤ N) : p ≤ tokF B N p ∧ tokF B N p ≤ N := rn_rng _ _ h
theorem tokE_rng {B : Nat → Int} {N f : Int} (h : f ≤ N) : f ≤ tokE B N f ∧ tokE B N f ≤ N := by
  unfold tokE
  split
  · omega
  · split
    · exact rn_rng _ _ h
    · split
      · exact rn_rng _ _ h
      · omega
theorem tokE_lt {B : Nat → Int} {N f : Int} (h : f < N) : f < tokE B N f := by
  have hd : (N - f).toNat = ((N - f).toNat - 1) + 1 := by omega
  unfold tokE
  rw [if_neg (by omega)]
  by_cases h1 : isSm (B f.toNat) = true
  · rw [if_pos h1, hd, rnF, if_pos ⟨h, h1⟩]; have := (rn_rng (P := isSm) (B := B) (N := N) ((N - f).toNat - 1) (f + 1) (by omega)).1; omega
  · rw [if_neg h1]
    by_cases h2 : isDg (B f.toNat) = true
    · rw [if_pos h2, hd, rnF, if_pos ⟨h, h2⟩]; have := (rn_rng (P := isDg) (B := B) (N := N) ((N - f).toNat - 1) (f + 1) (by omega)).1; omega
    · rw [if_neg h2]; omega
theorem inB_c {k : Nat → Nat × Nat} {g : Nat → Nat → Nat} {u : Nat → Nat → Int} {t : Nat × Nat × Nat} {c : Int} : a_m 180 [a_i c] (k, u, g, t) = some (.inl (some (a_i (bi (isSm c)))), (k, u, g, t)) := by
  unfold isSm
  by_cases h1 : c < 97
  · rw [inB_f (.inl h1)]; simp (disch := first | assumption | omega) only [E_X11_isSmall, B_X11_isSmall_0, Option.bind_some, back_v, Option.toList_some, Option.toList_none, List.cons_append, List.nil_append, Nat.reduceAdd, Int.reduceToNat, Int.reduceNeg, upm_eq, upm_r, upm_i, if_pos, if_neg, ite_self, true_or, or_true, true_and, and_true, false_or, or_false, false_and, and_false, wr_id, i10, i01, upr_f, upr_eq, thr58, upm_upr, upr_upr, lc_lt, lc_gt, lc_ge, lc_le, afit1, afit0, afitI, bifit, not_true_eq_false, not_false_eq_true, if_true, if_false, Bool.false_eq_true, reduceCtorEq, k1557, k1558, g1557_2, bi_f]
  · by_cases h2 : 122 < c
    · rw [inB_f (.inr h2)]; simp (disch := first | assumption | omega) only [E_X11_isSmall, B_X11_isSmall_0, Option.bind_some, back_v, Option.toList_some, Option.toList_none, List.cons_append, List.nil_append, Nat.reduceAdd, Int.reduceToNat, Int.reduceNeg, upm_eq, upm_r, upm_i, if_pos, if_neg, ite_self, true_or, or_true, true_and, and_true, false_or, or_false, false_and, and_false, wr_id, i10, i01, upr_f, upr_eq, thr58, upm_upr, upr_upr, lc_lt, lc_gt, lc_ge, lc_le, afit1, afit0, afitI, bifit, not_true_eq_false, not_false_eq_true, if_true, if_false, Bool.false_eq_true, reduceCtorEq, k1557, k1558, g1557_2, bi_f]
    · rw [inB_t (by omega) (by omega)]; simp (disch := first | assumption | omega) only [E_X11_isSmall, B_X11_isSmall_0, Option.bind_some, back_v, Option.toList_some, Option.toList_none, List.cons_append, List.nil_append, Nat.reduceAdd, Int.reduceToNat, Int.reduceNeg, upm_eq, upm_r, upm_i, if_pos, if_neg, ite_self, true_or, or_true, true_and, and_true, false_or, or_false, false_and, and_false, wr_id, i10, i01, upr_f, upr_eq, thr58, upm_upr, upr_upr, lc_lt, lc_gt, lc_ge, lc_le, afit1, afit0, afitI, bifit, not_true_eq_false, not_false_eq_true, if_true, if_false, Bool.false_eq_true, reduceCtorEq, k1557, k1558, g1557_2, bi_t]
theorem inB_d {k : Nat → Nat × Nat} {g : Nat → Nat → Nat} {u : Nat → Nat → Int} {t : Nat × Nat × Nat} {c : Int} : a_m 181 [a_i c] (k, u, g, t) = some (.inl (some (a_i (bi (isDg c)))), (k, u, g, t)) := by
  unfold isDg
  by_cases h1 : c < 48
  · rw [inB_f (.inl h1)]; simp (disch := first | assumption | omega) only [E_X11_isDigit, B_X11_isDigit_0, Option.bind_some, back_v, Option.toList_some, Option.toList_none, List.cons_append, List.nil_append, Nat.reduceAdd, Int.reduceToNat, Int.reduceNeg, upm_eq, upm_r, upm_i, if_pos, if_neg, ite_self, true_or, or_true, true_and, and_true, false_or, or_false, false_and, and_false, wr_id, i10, i01, upr_f, upr_eq, thr58, upm_upr, upr_upr, lc_lt, lc_gt, lc_ge, lc_le, afit1, afit0, afitI, bifit, not_true_eq_false, not_false_eq_true, if_true, if_false, Bool.false_eq_true, reduceCtorEq, k1557, k1558, g1557_2, bi_f]
  · by_cases h2 : 57 < c
    · rw [inB_f (.inr h2)]; simp (disch := first | assumption | omega) only [E_X11_isDigit, B_X11_isDigit_0, Option.bind_some, back_v, Option.toList_some, Option.toList_none, List.cons_append, List.nil_append, Nat.reduceAdd, Int.reduceToNat, Int.reduceNeg, upm_eq, upm_r, upm_i, if_pos, if_neg, ite_self, true_or, or_true, true_and, and_true, false_or, or_false, false_and, and_false, wr_id, i10, i01, upr_f, upr_eq, thr58, upm_upr, upr_upr, lc_lt, lc_gt, lc_ge, lc_le, afit1, afit0, afitI, bifit, not_true_eq_false, not_false_eq_true, if_true, if_false, Bool.false_eq_true, reduceCtorEq, k1557, k1558, g1557_2, bi_f]
    · rw [inB_t (by omega) (by omega)]; simp (disch := first | assumption | omega) only [E_X11_isDigit, B_X11_isDigit_0, Option.bind_some, back_v, Option.toList_some, Option.toList_none, List.cons_append, List.nil_append, Nat.reduceAdd, Int.reduceToNat, Int.reduceNeg, upm_eq, upm_r, upm_i, if_pos, if_neg, ite_self, true_or, or_true, true_and, and_true, false_or, or_false, false_and, and_false, wr_id, i10, i01, upr_f, upr_eq, thr58, upm_upr, upr_upr, lc_lt, lc_gt, lc_ge, lc_le, afit1, afit0, afitI, bifit, not_true_eq_false, not_false_eq_true, if_true, if_false, Bool.false_eq_true, reduceCtorEq, k1557, k1558, g1557_2, bi_t]
theorem inB_cC {k : Nat → Nat × Nat} {g : Nat → Nat → Nat} {u : Nat → Nat → Int} {t : Nat × Nat × Nat} {c : Int} : a_m 65 [a_i c] (k, u, g, t) = some (.inl (some (a_i (bi (isSm c)))), (k, u, g, t)) := by
  unfold isSm
  by_cases h1 : c < 97
  · rw [inB_f (.inl h1)]; simp (disch := first | assumption | omega) only [E_X5_isLetter, B_X5_isLetter_0, Option.bind_some, back_v, Option.toList_some, Option.toList_none, List.cons_append, List.nil_append, Nat.reduceAdd, Int.reduceToNat, Int.reduceNeg, upm_eq, upm_r, upm_i, if_pos, if_neg, ite_self, true_or, or_true, true_and, and_true, false_or, or_false, false_and, and_false, wr_id, i10, i01, upr_f, upr_eq, thr58, upm_upr, upr_upr, lc_lt, lc_gt, lc_ge, lc_le, afit1, afit0, afitI, bifit, not_true_eq_false, not_false_eq_true, if_true, if_false, Bool.false_eq_true, reduceCtorEq, k1557, k1558, g1557_2, bi_f]
  · by_cases h2 : 122 < c
    · rw [inB_f (.inr h2)]; simp (disch := first | assumption | omega) only [E_X5_isLetter, B_X5_isLetter_0, Option.bind_some, back_v, Option.toList_some, Option.toList_none, List.cons_append, List.nil_append, Nat.reduceAdd, Int.reduceToNat, Int.reduceNeg, upm_eq, upm_r, upm_i, if_pos, if_neg, ite_self, true_or, or_true, true_and, and_true, false_or, or_false, false_and, and_false, wr_id, i10, i01, upr_f, upr_eq, thr58, upm_upr, upr_upr, lc_lt, lc_gt, lc_ge, lc_le, afit1, afit0, afitI, bifit, not_true_eq_false, not_false_eq_true, if_true, if_false, Bool.false_eq_true, reduceCtorEq, k1557, k1558, g1557_2, bi_f]
    · rw [inB_t (by omega) (by omega)]; simp (disch := first | assumption | omega) only [E_X5_isLetter, B_X5_isLetter_0, Option.bind_some, back_v, Option.toList_some, Option.toList_none, List.cons_append, List.nil_append, Nat.reduceAdd, Int.reduceToNat, Int.reduceNeg, upm_eq, upm_r, upm_i, if_pos, if_neg, ite_self, true_or, or_true, true_and, and_true, false_or, or_false, false_and, and_false, wr_id, i10, i01, upr_f, upr_eq, thr58, upm_upr, upr_upr, lc_lt, lc_gt, lc_ge, lc_le, afit1, afit0, afitI, bifit, not_true_eq_false, not_false_eq_true, if_true, if_false, Bool.false_eq_true, reduceCtorEq, k1557, k1558, g1557_2, bi_t]
theorem inB_dC {k : Nat → Nat × Nat} {g : Nat → Nat → Nat} {u : Nat → Nat → Int} {t : Nat × Nat × Nat} {c : Int} : a_m 66 [a_i c] (k, u, g, t) = some (.inl (some (a_i (bi (isDg c)))), (k, u, g, t)) := by
  unfold isDg
  by_cases h1 : c < 48
  · rw [inB_f (.inl h1)]; simp (disch := first | assumption | omega) only [E_X5_isDigit, B_X5_isDigit_0, Option.bind_some, back_v, Option.toList_some, Option.toList_none, List.cons_append, List.nil_append, Nat.reduceAdd, Int.reduceToNat, Int.reduceNeg, upm_eq, upm_r, upm_i, if_pos, if_neg, ite_self, true_or, or_true, true_and, and_true, false_or, or_false, false_and, and_false, wr_id, i10, i01, upr_f, upr_eq, thr58, upm_upr, upr_upr, lc_lt, lc_gt, lc_ge, lc_le, afit1, afit0, afitI, bifit, not_true_eq_false, not_false_eq_true, if_true, if_false, Bool.false_eq_true, reduceCtorEq, k1557, k1558, g1557_2, bi_f]
  · by_cases h2 : 57 < c
    · rw [inB_f (.inr h2)]; simp (disch := first | assumption | omega) only [E_X5_isDigit, B_X5_isDigit_0, Option.bind_some, back_v, Option.toList_some, Option.toList_none, List.cons_append, List.nil_append, Nat.reduceAdd, Int.reduceToNat, Int.reduceNeg, upm_eq, upm_r, upm_i, if_pos, if_neg, ite_self, true_or, or_true, true_and, and_true, false_or, or_false, false_and, and_false, wr_id, i10, i01, upr_f, upr_eq, thr58, upm_upr, upr_upr, lc_lt, lc_gt, lc_ge, lc_le, afit1, afit0, afitI, bifit, not_true_eq_false, not_false_eq_true, if_true, if_false, Bool.false_eq_true, reduceCtorEq, k1557, k1558, g1557_2, bi_f]
    · rw [inB_t (by omega) (by omega)]; simp (disch := first | assumption | omega) only [E_X5_isDigit, B_X5_isDigit_0, Option.bind_some, back_v, Option.toList_some, Option.toList_none, List.cons_append, List.nil_append, Nat.reduceAdd, Int.reduceToNat, Int.reduceNeg, upm_eq, upm_r, upm_i, if_pos, if_neg, ite_self, true_or, or_true, true_and, and_true, false_or, or_false, false_and, and_false, wr_id, i10, i01, upr_f, upr_eq, thr58, upm_upr, upr_upr, lc_lt, lc_gt, lc_ge, lc_le, afit1, afit0, afitI, bifit, not_true_eq_false, not_false_eq_true, if_true, if_false, Bool.false_eq_true, reduceCtorEq, k1557, k1558, g1557_2, bi_t]
theorem sm_neg : isSm (-1) = false := rfl
theorem dg_neg : isDg (-1) = false := rfl
theorem upm_self_f {α : Type} {f : Nat → Nat → α} {r i : Nat} : upm f r i (f r i) = f := by
  funext q j; unfold upm; by_cases h : q = r ∧ j = i
  · rw [if_pos h, h.1, h.2]
  · rw [if_neg h]
section TK
variable {L : Nat} {a : Nat → Nat → Nat} {t : Nat × Nat × Nat}
/-- bytes, and how many are parsed -/
def byOK (u : Nat → Nat → Int) (N : Int) (B : Nat → Int) : Prop := 0 ≤ N ∧ N ≤ 500 ∧ ∀ i : Nat, 0 ≤ B i ∧ B i ≤ 255
theorem M_seen {u : Nat → Nat → Int} {N p : Int} {B : Nat → Int} (hN : u 1557 10 = N) (hB : u 1561 = B) (hb : byOK u N B) (hp : 0 ≤ p) : a_m 179 [a_r 1557, a_i p] (K0 L, u, G a, t) = some (.inl (some (a_i (if p < N then B p.toNat else -1))), (K0 L, u, G a, t)) := by
  obtain ⟨b1, b2, b3⟩ := hb
  by_cases h : p < N
  · simp (disch := first | assumption | omega) only [k1559, k1560, k1561, k1562, k1563, k1564, k1565, k1566, k1567, g1557_3, g1557_5, g1557_6, g1557_17, g1557_18, g1557_19, g1557_20, g1557_21, g1557_23, E_X11_seen, B_X11_seen_0, Option.bind_some, back_v, Option.toList_some, Option.toList_none, List.cons_append, List.nil_append, Nat.reduceAdd, Int.reduceToNat, Int.reduceNeg, upm_eq, upm_r, upm_i, if_pos, if_neg, ite_self, true_or, or_true, true_and, and_true, false_or, or_false, false_and, and_false, wr_id, i10, i01, upr_f, upr_eq, thr58, upm_upr, upr_upr, lc_lt, lc_gt, lc_ge, lc_le, afit1, afit0, afitI, bifit, not_true_eq_false, not_false_eq_true, if_true, if_false, Bool.false_eq_true, reduceCtorEq, k1557, k1558, g1557_2, hN, hB]
  · simp (disch := first | assumption | omega) only [k1559, k1560, k1561, k1562, k1563, k1564, k1565, k1566, k1567, g1557_3, g1557_5, g1557_6, g1557_17, g1557_18, g1557_19, g1557_20, g1557_21, g1557_23, E_X11_seen, B_X11_seen_0, Option.bind_some, back_v, Option.toList_some, Option.toList_none, List.cons_append, List.nil_append, Nat.reduceAdd, Int.reduceToNat, Int.reduceNeg, upm_eq, upm_r, upm_i, if_pos, if_neg, ite_self, true_or, or_true, true_and, and_true, false_or, or_false, false_and, and_false, wr_id, i10, i01, upr_f, upr_eq, thr58, upm_upr, upr_upr, lc_lt, lc_gt, lc_ge, lc_le, afit1, afit0, afitI, bifit, not_true_eq_false, not_false_eq_true, if_true, if_false, Bool.false_eq_true, reduceCtorEq, k1557, k1558, g1557_2, hN, hB]
/-- the reference's fields of the token -/
def mTk (u u' : Nat → Nat → Int) : Prop := (∀ q, q ≠ 1557 → u' q = u q) ∧ ∀ j, j ≠ 11 → j ≠ 12 → j ≠ 13 → j ≠ 14 → u' 1557 j = u 1557 j
theorem mTk.refl {u : Nat → Nat → Int} : mTk u u := ⟨fun _ _ => rfl, fun _ _ _ _ _ => rfl⟩
theorem mTk.trans {u v w : Nat → Nat → Int} (h : mTk u v) (h2 : mTk v w) : mTk u w := ⟨fun q hq => (h2.1 q hq).trans (h.1 q hq), fun j a b c d => (h2.2 j a b c d).trans (h.2 j a b c d)⟩
theorem mTk_up {u : Nat → Nat → Int} {j : Nat} {x : Int} (hj : j = 11 ∨ j = 12 ∨ j = 13 ∨ j = 14) : mTk u (upm u 1557 j x) := ⟨fun q hq => upm_rf hq, fun i a b c d => upm_i (by omega)⟩
theorem M_tok_blank {N : Int} {B : Nat → Int} {v : AV} : ∀ (d : Nat) (p : Int) (u : Nat → Nat → Int), u 1557 10 = N → u 1561 = B → byOK u N B → 0 ≤ p → p ≤ N → N - p ≤ d → u 1557 11 = p →
    a_X 182 0 [a_r 1557, v] [] (K0 L, u, G a, t) = a_X 182 42 [a_r 1557, v] [a_i (if rnF isBl B N d p < N then B (rnF isBl B N d p).toNat else -1)] (K0 L, upm (upm u 1557 11 (rnF isBl B N d p)) 1557 12 (rnF isBl B N d p), G a, t) := by
  intro d
  induction d with
  | zero =>
    intro p u hN hB hb h0 h1 hd hp
    have hs := M_seen (L := L) (a := a) (t := t) (p := p) hN hB hb h0
    have hs2 := M_seen (L := L) (u := upm u 1557 12 p) (a := a) (t := t) (p := p) (N := N) (B := B) (by rw [upm_i (by decide)]; exact hN) (by rw [upm_rf (by decide)]; exact hB) hb h0
    rw [if_neg (by omega)] at hs hs2
    rw [rnF, if_neg (by omega)]
    have e : upm (upm u 1557 11 p) 1557 12 p = upm u 1557 12 p := by
      congr 1; rw [← hp]; exact upm_self_f
    rw [e]
    rw [B_X11_token_0]
    simp (disch := first | assumption | omega) only [B_X11_token_8, B_X11_token_42, B_X11_token_60, B_X11_token_120, B_X11_token_71, B_X11_token_136, B_X11_token_74, B_X11_token_139, B_X11_token_171, Option.bind_some, back_v, Option.toList_some, Option.toList_none, List.cons_append, List.nil_append, Nat.reduceAdd, Int.reduceToNat, Int.reduceNeg, upm_eq, upm_r, upm_i, if_pos, if_neg, ite_self, true_or, or_true, true_and, and_true, false_or, or_false, false_and, and_false, wr_id, i10, i01, upr_f, upr_eq, thr58, upm_upr, upr_upr, lc_lt, lc_gt, lc_ge, lc_le, afit1, afit0, afitI, bifit, not_true_eq_false, not_false_eq_true, if_true, if_false, Bool.false_eq_true, reduceCtorEq, k1557, k1558, g1557_2, hp, hs, hs2]
  | succ d ih =>
    intro p u hN hB hb h0 h1 hd hp
    have hs := M_seen (L := L) (a := a) (t := t) (p := p) hN hB hb h0
    by_cases hc : p < N ∧ isBl (B p.toNat) = true
    · rw [rnF, if_pos hc]
      have h32 : B p.toNat = 32 := of_decide_eq_true hc.2
      rw [if_pos hc.1, h32] at hs
      have := ih (p + 1) (upm u 1557 11 (p + 1)) (by rw [upm_i (by decide)]; exact hN) (by rw [upm_rf (by decide)]; exact hB) hb (by omega) (by omega) (by omega) upm_eq
      rw [upm_upm] at this
      rw [← this]
      obtain ⟨b1, b2, b3⟩ := hb
      rw [B_X11_token_0]
      simp (disch := first | assumption | omega) only [B_X11_token_8, B_X11_token_42, B_X11_token_60, B_X11_token_120, B_X11_token_71, B_X11_token_136, B_X11_token_74, B_X11_token_139, B_X11_token_171, Option.bind_some, back_v, Option.toList_some, Option.toList_none, List.cons_append, List.nil_append, Nat.reduceAdd, Int.reduceToNat, Int.reduceNeg, upm_eq, upm_r, upm_i, if_pos, if_neg, ite_self, true_or, or_true, true_and, and_true, false_or, or_false, false_and, and_false, wr_id, i10, i01, upr_f, upr_eq, thr58, upm_upr, upr_upr, lc_lt, lc_gt, lc_ge, lc_le, afit1, afit0, afitI, bifit, not_true_eq_false, not_false_eq_true, if_true, if_false, Bool.false_eq_true, reduceCtorEq, k1557, k1558, g1557_2, hp, hs]
    · have hs2 := M_seen (L := L) (u := upm u 1557 12 p) (a := a) (t := t) (p := p) (N := N) (B := B) (by rw [upm_i (by decide)]; exact hN) (by rw [upm_rf (by decide)]; exact hB) hb h0
      rw [rnF, if_neg hc]
      have hne : (if p < N then B p.toNat else -1) ≠ 32 := by
        by_cases h : p < N
        · rw [if_pos h]; intro h9; exact hc ⟨h, by unfold isBl; simp [h9]⟩
        · rw [if_neg h]; decide
      have e : upm (upm u 1557 11 p) 1557 12 p = upm u 1557 12 p := by
        congr 1; rw [← hp]; exact upm_self_f
      rw [e]
      generalize (if p < N then B p.toNat else -1) = z at *
      rw [B_X11_token_0]
      simp (disch := first | assumption | omega) only [B_X11_token_8, B_X11_token_42, B_X11_token_60, B_X11_token_120, B_X11_token_71, B_X11_token_136, B_X11_token_74, B_X11_token_139, B_X11_token_171, Option.bind_some, back_v, Option.toList_some, Option.toList_none, List.cons_append, List.nil_append, Nat.reduceAdd, Int.reduceToNat, Int.reduceNeg, upm_eq, upm_r, upm_i, if_pos, if_neg, ite_self, true_or, or_true, true_and, and_true, false_or, or_false, false_and, and_false, wr_id, i10, i01, upr_f, upr_eq, thr58, upm_upr, upr_upr, lc_lt, lc_gt, lc_ge, lc_le, afit1, afit0, afitI, bifit, not_true_eq_false, not_false_eq_true, if_true, if_false, Bool.false_eq_true, reduceCtorEq, k1557, k1558, g1557_2, hp, hs, hs2, hne]
theorem M_tok_word {N f : Int} {B : Nat → Int} {c : Int} (hf : 0 ≤ f) : ∀ (d : Nat) (p : Int) (u : Nat → Nat → Int), u 1557 10 = N → u 1561 = B → byOK u N B → f ≤ p → p ≤ N → N - p ≤ d → u 1557 11 = p → u 1557 12 = f →
    a_X 182 63 [a_r 1557, a_i c] [] (K0 L, u, G a, t) = some (.inl none, (K0 L, upm (upm u 1557 11 (rnF isSm B N d p)) 1557 13 (if rnF isSm B N d p - f ≤ 6 then 1 else 4), G a, t)) := by
  intro d
  induction d with
  | zero =>
    intro p u hN hB hb h0 h1 hd hp hff
    have hs := M_seen (L := L) (a := a) (t := t) (p := p) hN hB hb (by omega)
    rw [if_neg (by omega)] at hs
    rw [rnF]
    have e : upm u 1557 11 p = u := by rw [← hp]; exact upm_self_f
    rw [e]
    obtain ⟨b1, b2, b3⟩ := hb
    rw [B_X11_token_63]
    by_cases h6 : p - f ≤ 6
    · simp (disch := first | assumption | omega) only [B_X11_token_8, B_X11_token_42, B_X11_token_60, B_X11_token_120, B_X11_token_71, B_X11_token_136, B_X11_token_74, B_X11_token_139, B_X11_token_171, Option.bind_some, back_v, Option.toList_some, Option.toList_none, List.cons_append, List.nil_append, Nat.reduceAdd, Int.reduceToNat, Int.reduceNeg, upm_eq, upm_r, upm_i, if_pos, if_neg, ite_self, true_or, or_true, true_and, and_true, false_or, or_false, false_and, and_false, wr_id, i10, i01, upr_f, upr_eq, thr58, upm_upr, upr_upr, lc_lt, lc_gt, lc_ge, lc_le, afit1, afit0, afitI, bifit, not_true_eq_false, not_false_eq_true, if_true, if_false, Bool.false_eq_true, reduceCtorEq, k1557, k1558, g1557_2, hp, hff, hs, inB_c, sm_neg, bi_f]
    · simp (disch := first | assumption | omega) only [B_X11_token_8, B_X11_token_42, B_X11_token_60, B_X11_token_120, B_X11_token_71, B_X11_token_136, B_X11_token_74, B_X11_token_139, B_X11_token_171, Option.bind_some, back_v, Option.toList_some, Option.toList_none, List.cons_append, List.nil_append, Nat.reduceAdd, Int.reduceToNat, Int.reduceNeg, upm_eq, upm_r, upm_i, if_pos, if_neg, ite_self, true_or, or_true, true_and, and_true, false_or, or_false, false_and, and_false, wr_id, i10, i01, upr_f, upr_eq, thr58, upm_upr, upr_upr, lc_lt, lc_gt, lc_ge, lc_le, afit1, afit0, afitI, bifit, not_true_eq_false, not_false_eq_true, if_true, if_false, Bool.false_eq_true, reduceCtorEq, k1557, k1558, g1557_2, hp, hff, hs, inB_c, sm_neg, bi_f]
  | succ d ih =>
    intro p u hN hB hb h0 h1 hd hp hff
    have hs := M_seen (L := L) (a := a) (t := t) (p := p) hN hB hb (by omega)
    by_cases hc : p < N ∧ isSm (B p.toNat) = true
    · rw [rnF, if_pos hc]
      rw [if_pos hc.1] at hs
      have := ih (p + 1) (upm u 1557 11 (p + 1)) (by rw [upm_i (by decide)]; exact hN) (by rw [upm_rf (by decide)]; exact hB) hb (by omega) (by omega) (by omega) upm_eq (by rw [upm_i (by decide)]; exact hff)
      rw [upm_upm] at this
      rw [← this]
      obtain ⟨b1, b2, b3⟩ := hb
      have hc2 := hc.2
      rw [B_X11_token_63]
      simp (disch := first | assumption | omega) only [B_X11_token_8, B_X11_token_42, B_X11_token_60, B_X11_token_120, B_X11_token_71, B_X11_token_136, B_X11_token_74, B_X11_token_139, B_X11_token_171, Option.bind_some, back_v, Option.toList_some, Option.toList_none, List.cons_append, List.nil_append, Nat.reduceAdd, Int.reduceToNat, Int.reduceNeg, upm_eq, upm_r, upm_i, if_pos, if_neg, ite_self, true_or, or_true, true_and, and_true, false_or, or_false, false_and, and_false, wr_id, i10, i01, upr_f, upr_eq, thr58, upm_upr, upr_upr, lc_lt, lc_gt, lc_ge, lc_le, afit1, afit0, afitI, bifit, not_true_eq_false, not_false_eq_true, if_true, if_false, Bool.false_eq_true, reduceCtorEq, k1557, k1558, g1557_2, hp, hs, inB_c, hc2, bi_t]
    · rw [rnF, if_neg hc]
      have hne : isSm (if p < N then B p.toNat else -1) = false := by
        by_cases h : p < N
        · rw [if_pos h]
          cases h9 : isSm (B p.toNat) with
          | false => rfl
          | true => exact absurd ⟨h, h9⟩ hc
        · rw [if_neg h]; rfl
      have e : upm u 1557 11 p = u := by rw [← hp]; exact upm_self_f
      rw [e]
      generalize (if p < N then B p.toNat else -1) = z at *
      obtain ⟨b1, b2, b3⟩ := hb
      rw [B_X11_token_63]
      by_cases h6 : p - f ≤ 6
      · simp (disch := first | assumption | omega) only [B_X11_token_8, B_X11_token_42, B_X11_token_60, B_X11_token_120, B_X11_token_71, B_X11_token_136, B_X11_token_74, B_X11_token_139, B_X11_token_171, Option.bind_some, back_v, Option.toList_some, Option.toList_none, List.cons_append, List.nil_append, Nat.reduceAdd, Int.reduceToNat, Int.reduceNeg, upm_eq, upm_r, upm_i, if_pos, if_neg, ite_self, true_or, or_true, true_and, and_true, false_or, or_false, false_and, and_false, wr_id, i10, i01, upr_f, upr_eq, thr58, upm_upr, upr_upr, lc_lt, lc_gt, lc_ge, lc_le, afit1, afit0, afitI, bifit, not_true_eq_false, not_false_eq_true, if_true, if_false, Bool.false_eq_true, reduceCtorEq, k1557, k1558, g1557_2, hp, hff, hs, inB_c, hne, bi_f]
      · simp (disch := first | assumption | omega) only [B_X11_token_8, B_X11_token_42, B_X11_token_60, B_X11_token_120, B_X11_token_71, B_X11_token_136, B_X11_token_74, B_X11_token_139, B_X11_token_171, Option.bind_some, back_v, Option.toList_some, Option.toList_none, List.cons_append, List.nil_append, Nat.reduceAdd, Int.reduceToNat, Int.reduceNeg, upm_eq, upm_r, upm_i, if_pos, if_neg, ite_self, true_or, or_true, true_and, and_true, false_or, or_false, false_and, and_false, wr_id, i10, i01, upr_f, upr_eq, thr58, upm_upr, upr_upr, lc_lt, lc_gt, lc_ge, lc_le, afit1, afit0, afitI, bifit, not_true_eq_false, not_false_eq_true, if_true, if_false, Bool.false_eq_true, reduceCtorEq, k1557, k1558, g1557_2, hp, hff, hs, inB_c, hne, bi_f]
/-- the number so far: right while there are at most four digits -/
theorem M_tok_num {N f : Int} {B : Nat → Int} {c : Int} (hf : 0 ≤ f) : ∀ (d : Nat) (p : Int) (u : Nat → Nat → Int), u 1557 10 = N → u 1561 = B → byOK u N B → f ≤ p → p ≤ N → N - p ≤ d → u 1557 11 = p → u 1557 12 = f → (p - f ≤ 4 → 0 ≤ u 1557 14 ∧ u 1557 14 < 10 ^ (p - f).toNat) → (4 < p - f → u 1557 14 = 0) →
    ∃ z, a_X 182 128 [a_r 1557, a_i c] [] (K0 L, u, G a, t) = some (.inl none, (K0 L, upm (upm (upm u 1557 14 z) 1557 11 (rnF isDg B N d p)) 1557 13 (if rnF isDg B N d p - f ≤ 4 then 2 else 4), G a, t)) ∧ (rnF isDg B N d p - f ≤ 4 → z = valF B (rnF isDg B N d p - p).toNat p (u 1557 14)) := by
  intro d
  induction d with
  | zero =>
    intro p u hN hB hb h0 h1 hd hp hff hv hv2
    have hs := M_seen (L := L) (a := a) (t := t) (p := p) hN hB hb (by omega)
    rw [if_neg (by omega)] at hs
    rw [rnF]
    refine ⟨u 1557 14, ?_, fun _ => by rw [Int.sub_self]; rfl⟩
    rw [upm_self_f]
    have e : upm u 1557 11 p = u := by rw [← hp]; exact upm_self_f
    rw [e]
    obtain ⟨b1, b2, b3⟩ := hb
    rw [B_X11_token_128]
    by_cases h6 : p - f ≤ 4
    · simp (disch := first | assumption | omega) only [B_X11_token_8, B_X11_token_42, B_X11_token_60, B_X11_token_120, B_X11_token_71, B_X11_token_136, B_X11_token_74, B_X11_token_139, B_X11_token_171, Option.bind_some, back_v, Option.toList_some, Option.toList_none, List.cons_append, List.nil_append, Nat.reduceAdd, Int.reduceToNat, Int.reduceNeg, upm_eq, upm_r, upm_i, if_pos, if_neg, ite_self, true_or, or_true, true_and, and_true, false_or, or_false, false_and, and_false, wr_id, i10, i01, upr_f, upr_eq, thr58, upm_upr, upr_upr, lc_lt, lc_gt, lc_ge, lc_le, afit1, afit0, afitI, bifit, not_true_eq_false, not_false_eq_true, if_true, if_false, Bool.false_eq_true, reduceCtorEq, k1557, k1558, g1557_2, hp, hff, hs, inB_d, dg_neg, bi_f]
    · simp (disch := first | assumption | omega) only [B_X11_token_8, B_X11_token_42, B_X11_token_60, B_X11_token_120, B_X11_token_71, B_X11_token_136, B_X11_token_74, B_X11_token_139, B_X11_token_171, Option.bind_some, back_v, Option.toList_some, Option.toList_none, List.cons_append, List.nil_append, Nat.reduceAdd, Int.reduceToNat, Int.reduceNeg, upm_eq, upm_r, upm_i, if_pos, if_neg, ite_self, true_or, or_true, true_and, and_true, false_or, or_false, false_and, and_false, wr_id, i10, i01, upr_f, upr_eq, thr58, upm_upr, upr_upr, lc_lt, lc_gt, lc_ge, lc_le, afit1, afit0, afitI, bifit, not_true_eq_false, not_false_eq_true, if_true, if_false, Bool.false_eq_true, reduceCtorEq, k1557, k1558, g1557_2, hp, hff, hs, inB_d, dg_neg, bi_f]
  | succ d ih =>
    intro p u hN hB hb h0 h1 hd hp hff hv hv2
    have hs := M_seen (L := L) (a := a) (t := t) (p := p) hN hB hb (by omega)
    by_cases hc : p < N ∧ isDg (B p.toNat) = true
    · rw [rnF, if_pos hc]
      rw [if_pos hc.1] at hs
      have hdg := inB_iff.mp hc.2
      obtain ⟨b1, b2, b3⟩ := hb
      have hc2 := hc.2
      by_cases h4 : p - f < 4
      · have hv1 := hv (by omega)
        have hpow : (10 : Int) ^ (p - f).toNat ≤ 1000 := by
          have : (p - f).toNat = 0 ∨ (p - f).toNat = 1 ∨ (p - f).toNat = 2 ∨ (p - f).toNat = 3 := by omega
          rcases this with h | h | h | h <;> rw [h] <;> decide
        obtain ⟨z, g1, g2⟩ := ih (p + 1) (upm (upm u 1557 14 (10 * u 1557 14 + B p.toNat - 48)) 1557 11 (p + 1)) (by rw [upm_i (by decide), upm_i (by decide)]; exact hN) (by rw [upm_rf (by decide), upm_rf (by decide)]; exact hB) ⟨b1, b2, b3⟩ (by omega) (by omega) (by omega) upm_eq (by rw [upm_i (by decide), upm_i (by decide)]; exact hff) (fun h5 => by
          rw [upm_i (by decide), upm_eq, show (p + 1 - f).toNat = (p - f).toNat + 1 from by omega, Int.pow_succ]; omega) (fun h5 => by omega)
        have hs3 := M_seen (L := L) (u := u) (a := a) (t := t) (p := p) (N := N) (B := B) hN hB ⟨b1, b2, b3⟩ (by omega)
        refine ⟨z, ?_, fun h5 => ?_⟩
        · have e : ∀ w y, upm (upm (upm (upm u 1557 14 w) 1557 11 (p + 1)) 1557 14 z) 1557 11 y = upm (upm u 1557 14 z) 1557 11 y := by
            intro w y; funext q j; unfold upm
            by_cases h1 : q = 1557 ∧ j = 11
            · simp [h1]
            · by_cases h2 : q = 1557 ∧ j = 14 <;> simp [h1, h2]
          rw [e] at g1
          rw [← g1]
          rw [B_X11_token_128]
          simp (disch := first | assumption | omega) only [B_X11_token_8, B_X11_token_42, B_X11_token_60, B_X11_token_120, B_X11_token_71, B_X11_token_136, B_X11_token_74, B_X11_token_139, B_X11_token_171, Option.bind_some, back_v, Option.toList_some, Option.toList_none, List.cons_append, List.nil_append, Nat.reduceAdd, Int.reduceToNat, Int.reduceNeg, upm_eq, upm_r, upm_i, if_pos, if_neg, ite_self, true_or, or_true, true_and, and_true, false_or, or_false, false_and, and_false, wr_id, i10, i01, upr_f, upr_eq, thr58, upm_upr, upr_upr, lc_lt, lc_gt, lc_ge, lc_le, afit1, afit0, afitI, bifit, not_true_eq_false, not_false_eq_true, if_true, if_false, Bool.false_eq_true, reduceCtorEq, k1557, k1558, g1557_2, hp, hff, hs, inB_d, hc2, bi_t]
        · rw [g2 h5, upm_i (by decide), upm_eq]
          have hr := (rn_rng (P := isDg) (B := B) (N := N) d (p + 1) (by omega)).1
          rw [show (rnF isDg B N d (p + 1) - p).toNat = (rnF isDg B N d (p + 1) - (p + 1)).toNat + 1 from by omega]
          rfl
      · obtain ⟨z, g1, g2⟩ := ih (p + 1) (upm (upm u 1557 14 0) 1557 11 (p + 1)) (by rw [upm_i (by decide), upm_i (by decide)]; exact hN) (by rw [upm_rf (by decide), upm_rf (by decide)]; exact hB) ⟨b1, b2, b3⟩ (by omega) (by omega) (by omega) upm_eq (by rw [upm_i (by decide), upm_i (by decide)]; exact hff) (fun h5 => by omega) (fun h5 => by rw [upm_i (by decide), upm_eq])
        have hr := (rn_rng (P := isDg) (B := B) (N := N) d (p + 1) (by omega)).1
        refine ⟨z, ?_, fun h5 => by omega⟩
        have e : ∀ w y, upm (upm (upm (upm u 1557 14 w) 1557 11 (p + 1)) 1557 14 z) 1557 11 y = upm (upm u 1557 14 z) 1557 11 y := by
          intro w y; funext q j; unfold upm
          by_cases h1 : q = 1557 ∧ j = 11
          · simp [h1]
          · by_cases h2 : q = 1557 ∧ j = 14 <;> simp [h1, h2]
        rw [e] at g1
        rw [← g1]
        rw [B_X11_token_128]
        simp (disch := first | assumption | omega) only [B_X11_token_8, B_X11_token_42, B_X11_token_60, B_X11_token_120, B_X11_token_71, B_X11_token_136, B_X11_token_74, B_X11_token_139, B_X11_token_171, Option.bind_some, back_v, Option.toList_some, Option.toList_none, List.cons_append, List.nil_append, Nat.reduceAdd, Int.reduceToNat, Int.reduceNeg, upm_eq, upm_r, upm_i, if_pos, if_neg, ite_self, true_or, or_true, true_and, and_true, false_or, or_false, false_and, and_false, wr_id, i10, i01, upr_f, upr_eq, thr58, upm_upr, upr_upr, lc_lt, lc_gt, lc_ge, lc_le, afit1, afit0, afitI, bifit, not_true_eq_false, not_false_eq_true, if_true, if_false, Bool.false_eq_true, reduceCtorEq, k1557, k1558, g1557_2, hp, hff, hs, inB_d, hc2, bi_t]
    · rw [rnF, if_neg hc]
      have hne : isDg (if p < N then B p.toNat else -1) = false := by
        by_cases h : p < N
        · rw [if_pos h]
          cases h9 : isDg (B p.toNat) with
          | false => rfl
          | true => exact absurd ⟨h, h9⟩ hc
        · rw [if_neg h]; rfl
      refine ⟨u 1557 14, ?_, fun _ => by rw [Int.sub_self]; rfl⟩
      rw [upm_self_f]
      have e : upm u 1557 11 p = u := by rw [← hp]; exact upm_self_f
      rw [e]
      generalize (if p < N then B p.toNat else -1) = z at *
      obtain ⟨b1, b2, b3⟩ := hb
      rw [B_X11_token_128]
      by_cases h6 : p - f ≤ 4
      · simp (disch := first | assumption | omega) only [B_X11_token_8, B_X11_token_42, B_X11_token_60, B_X11_token_120, B_X11_token_71, B_X11_token_136, B_X11_token_74, B_X11_token_139, B_X11_token_171, Option.bind_some, back_v, Option.toList_some, Option.toList_none, List.cons_append, List.nil_append, Nat.reduceAdd, Int.reduceToNat, Int.reduceNeg, upm_eq, upm_r, upm_i, if_pos, if_neg, ite_self, true_or, or_true, true_and, and_true, false_or, or_false, false_and, and_false, wr_id, i10, i01, upr_f, upr_eq, thr58, upm_upr, upr_upr, lc_lt, lc_gt, lc_ge, lc_le, afit1, afit0, afitI, bifit, not_true_eq_false, not_false_eq_true, if_true, if_false, Bool.false_eq_true, reduceCtorEq, k1557, k1558, g1557_2, hp, hff, hs, inB_d, hne, bi_f]
      · simp (disch := first | assumption | omega) only [B_X11_token_8, B_X11_token_42, B_X11_token_60, B_X11_token_120, B_X11_token_71, B_X11_token_136, B_X11_token_74, B_X11_token_139, B_X11_token_171, Option.bind_some, back_v, Option.toList_some, Option.toList_none, List.cons_append, List.nil_append, Nat.reduceAdd, Int.reduceToNat, Int.reduceNeg, upm_eq, upm_r, upm_i, if_pos, if_neg, ite_self, true_or, or_true, true_and, and_true, false_or, or_false, false_and, and_false, wr_id, i10, i01, upr_f, upr_eq, thr58, upm_upr, upr_upr, lc_lt, lc_gt, lc_ge, lc_le, afit1, afit0, afitI, bifit, not_true_eq_false, not_false_eq_true, if_true, if_false, Bool.false_eq_true, reduceCtorEq, k1557, k1558, g1557_2, hp, hff, hs, inB_d, hne, bi_f]
theorem M_token {u : Nat → Nat → Int} {N p : Int} {B : Nat → Int} (hN : u 1557 10 = N) (hB : u 1561 = B) (hb : byOK u N B) (h0 : 0 ≤ p) (h1 : p ≤ N) (hp : u 1557 11 = p) :
    ∃ u', a_m 182 [a_r 1557] (K0 L, u, G a, t) = some (.inl none, (K0 L, u', G a, t)) ∧ mTk u u' ∧ u' 1557 12 = tokF B N p ∧ u' 1557 11 = tokE B N (tokF B N p) ∧ u' 1557 13 = tokS B N (tokF B N p) ∧ (tokS B N (tokF B N p) = 2 → u' 1557 14 = tokV B N (tokF B N p)) := by
  have hE : a_m 182 [a_r 1557] (K0 L, u, G a, t) = a_X 182 0 [a_r 1557, a_x false] [] (K0 L, u, G a, t) := E_X11_token
  have hbl := M_tok_blank (L := L) (a := a) (t := t) (v := a_x false) (N - p).toNat p u hN hB hb h0 h1 (by omega) hp
  have hfr := tokF_rng (B := B) h1
  have e1 : rnF isBl B N (N - p).toNat p = tokF B N p := rfl
  rw [e1] at hbl
  rw [hE, hbl]
  generalize hf : tokF B N p = f at *
  generalize hw : upm (upm u 1557 11 f) 1557 12 f = w
  have w11 : w 1557 11 = f := by rw [← hw, upm_i (by decide), upm_eq]
  have w12 : w 1557 12 = f := by rw [← hw, upm_eq]
  have w10 : w 1557 10 = N := by rw [← hw, upm_i (by decide), upm_i (by decide)]; exact hN
  have wB : w 1561 = B := by rw [← hw, upm_rf (by decide), upm_rf (by decide)]; exact hB
  have wk : mTk u w := by rw [← hw]; exact (mTk_up (.inl rfl)).trans (mTk_up (.inr (.inl rfl)))
  obtain ⟨b1, b2, b3⟩ := hb
  by_cases hNf : N ≤ f
  · rw [if_neg (by omega)]
    refine ⟨upm w 1557 13 0, ?_, wk.trans (mTk_up (.inr (.inr (.inl rfl)))), ?_, ?_, ?_, ?_⟩
    · simp (disch := first | assumption | omega) only [B_X11_token_8, B_X11_token_42, B_X11_token_60, B_X11_token_120, B_X11_token_71, B_X11_token_136, B_X11_token_74, B_X11_token_139, B_X11_token_171, Option.bind_some, back_v, Option.toList_some, Option.toList_none, List.cons_append, List.nil_append, Nat.reduceAdd, Int.reduceToNat, Int.reduceNeg, upm_eq, upm_r, upm_i, if_pos, if_neg, ite_self, true_or, or_true, true_and, and_true, false_or, or_false, false_and, and_false, wr_id, i10, i01, upr_f, upr_eq, thr58, upm_upr, upr_upr, lc_lt, lc_gt, lc_ge, lc_le, afit1, afit0, afitI, bifit, not_true_eq_false, not_false_eq_true, if_true, if_false, Bool.false_eq_true, reduceCtorEq, k1557, k1558, g1557_2]
    · rw [upm_i (by decide)]; exact w12
    · rw [upm_i (by decide), w11, tokE, if_pos hNf]
    · rw [upm_eq, tokS, if_pos hNf]
    · rw [tokS, if_pos hNf]; intro h; cases h
  · rw [if_pos (by omega)]
    have hBf := b3 f.toNat
    have hE' : tokE B N f = if isSm (B f.toNat) = true then rnF isSm B N (N - f).toNat f else if isDg (B f.toNat) = true then rnF isDg B N (N - f).toNat f else f + 1 := by unfold tokE; rw [if_neg hNf]
    have hS' : tokS B N f = if isSm (B f.toNat) = true then (if tokE B N f - f ≤ 6 then 1 else 4) else if isDg (B f.toNat) = true then (if tokE B N f - f ≤ 4 then 2 else 4) else if B f.toNat = 59 then 3 else 4 := by unfold tokS; rw [if_neg hNf]
    have hnn : B f.toNat ≠ -1 := by omega
    cases h2 : isSm (B f.toNat) with
    | true =>
      rw [h2, if_pos rfl] at hE' hS'
      have hwd := M_tok_word (L := L) (a := a) (t := t) (c := B f.toNat) (f := f) (by omega) (N - f).toNat f w w10 wB ⟨b1, b2, b3⟩ (Int.le_refl _) hfr.2 (by omega) w11 w12
      rw [← hE', ← hS'] at hwd
      refine ⟨upm (upm w 1557 11 (tokE B N f)) 1557 13 (tokS B N f), ?_, (wk.trans (mTk_up (.inl rfl))).trans (mTk_up (.inr (.inr (.inl rfl)))), ?_, ?_, ?_, ?_⟩
      · rw [← hwd]
        simp (disch := first | assumption | omega) only [B_X11_token_8, B_X11_token_42, B_X11_token_60, B_X11_token_120, B_X11_token_71, B_X11_token_136, B_X11_token_74, B_X11_token_139, B_X11_token_171, Option.bind_some, back_v, Option.toList_some, Option.toList_none, List.cons_append, List.nil_append, Nat.reduceAdd, Int.reduceToNat, Int.reduceNeg, upm_eq, upm_r, upm_i, if_pos, if_neg, ite_self, true_or, or_true, true_and, and_true, false_or, or_false, false_and, and_false, wr_id, i10, i01, upr_f, upr_eq, thr58, upm_upr, upr_upr, lc_lt, lc_gt, lc_ge, lc_le, afit1, afit0, afitI, bifit, not_true_eq_false, not_false_eq_true, if_true, if_false, Bool.false_eq_true, reduceCtorEq, k1557, k1558, g1557_2, hnn, inB_c, h2, bi_t]
      · rw [upm_i (by decide), upm_i (by decide)]; exact w12
      · rw [upm_i (by decide), upm_eq]
      · rw [upm_eq]
      · intro h9; rw [hS'] at h9; split at h9 <;> cases h9
    | false =>
      rw [h2, if_neg (by decide)] at hE' hS'
      cases h3 : isDg (B f.toNat) with
      | true =>
        rw [h3, if_pos rfl] at hE' hS'
        obtain ⟨z, g1, g2⟩ := M_tok_num (L := L) (a := a) (t := t) (c := B f.toNat) (f := f) (by omega) (N - f).toNat f (upm w 1557 14 0) (by rw [upm_i (by decide)]; exact w10) (by rw [upm_rf (by decide)]; exact wB) ⟨b1, b2, b3⟩ (Int.le_refl _) hfr.2 (by omega) (by rw [upm_i (by decide)]; exact w11) (by rw [upm_i (by decide)]; exact w12) (fun _ => by rw [upm_eq, Int.sub_self]; decide) (fun h9 => by omega)
        rw [← hE'] at g1 g2
        rw [← hS'] at g1
        refine ⟨upm (upm (upm (upm w 1557 14 0) 1557 14 z) 1557 11 (tokE B N f)) 1557 13 (tokS B N f), ?_, (((wk.trans (mTk_up (j := 14) (x := 0) (by decide))).trans (mTk_up (j := 14) (x := z) (by decide))).trans (mTk_up (j := 11) (x := tokE B N f) (.inl rfl))).trans (mTk_up (j := 13) (x := tokS B N f) (.inr (.inr (.inl rfl)))), ?_, ?_, ?_, ?_⟩
        · rw [← g1]
          simp (disch := first | assumption | omega) only [B_X11_token_8, B_X11_token_42, B_X11_token_60, B_X11_token_120, B_X11_token_71, B_X11_token_136, B_X11_token_74, B_X11_token_139, B_X11_token_171, Option.bind_some, back_v, Option.toList_some, Option.toList_none, List.cons_append, List.nil_append, Nat.reduceAdd, Int.reduceToNat, Int.reduceNeg, upm_eq, upm_r, upm_i, if_pos, if_neg, ite_self, true_or, or_true, true_and, and_true, false_or, or_false, false_and, and_false, wr_id, i10, i01, upr_f, upr_eq, thr58, upm_upr, upr_upr, lc_lt, lc_gt, lc_ge, lc_le, afit1, afit0, afitI, bifit, not_true_eq_false, not_false_eq_true, if_true, if_false, Bool.false_eq_true, reduceCtorEq, k1557, k1558, g1557_2, hnn, inB_c, inB_d, h2, h3, bi_t, bi_f]
        · rw [upm_i (by decide), upm_i (by decide), upm_i (by decide), upm_i (by decide)]; exact w12
        · rw [upm_i (by decide), upm_eq]
        · rw [upm_eq]
        · intro h9
          rw [hS'] at h9
          have h10 : tokE B N f - f ≤ 4 := by
            refine Classical.byContradiction fun h11 => ?_
            rw [if_neg h11] at h9; cases h9
          rw [upm_i (by decide), upm_i (by decide), upm_eq, g2 h10, upm_eq]; rfl
      | false =>
        rw [h3, if_neg (by decide)] at hE' hS'
        refine ⟨upm (upm w 1557 13 (if B f.toNat = 59 then 3 else 4)) 1557 11 (f + 1), ?_, (wk.trans (mTk_up (.inr (.inr (.inl rfl))))).trans (mTk_up (.inl rfl)), ?_, ?_, ?_, ?_⟩
        · by_cases h5 : B f.toNat = 59
          · have hsm : isSm 59 = false := rfl
            have hdg : isDg 59 = false := rfl
            simp (disch := first | assumption | omega) only [B_X11_token_8, B_X11_token_42, B_X11_token_60, B_X11_token_120, B_X11_token_71, B_X11_token_136, B_X11_token_74, B_X11_token_139, B_X11_token_171, Option.bind_some, back_v, Option.toList_some, Option.toList_none, List.cons_append, List.nil_append, Nat.reduceAdd, Int.reduceToNat, Int.reduceNeg, upm_eq, upm_r, upm_i, if_pos, if_neg, ite_self, true_or, or_true, true_and, and_true, false_or, or_false, false_and, and_false, wr_id, i10, i01, upr_f, upr_eq, thr58, upm_upr, upr_upr, lc_lt, lc_gt, lc_ge, lc_le, afit1, afit0, afitI, bifit, not_true_eq_false, not_false_eq_true, if_true, if_false, Bool.false_eq_true, reduceCtorEq, k1557, k1558, g1557_2, hnn, inB_c, inB_d, h5, hsm, hdg, bi_f, w11]
          · simp (disch := first | assumption | omega) only [B_X11_token_8, B_X11_token_42, B_X11_token_60, B_X11_token_120, B_X11_token_71, B_X11_token_136, B_X11_token_74, B_X11_token_139, B_X11_token_171, Option.bind_some, back_v, Option.toList_some, Option.toList_none, List.cons_append, List.nil_append, Nat.reduceAdd, Int.reduceToNat, Int.reduceNeg, upm_eq, upm_r, upm_i, if_pos, if_neg, ite_self, true_or, or_true, true_and, and_true, false_or, or_false, false_and, and_false, wr_id, i10, i01, upr_f, upr_eq, thr58, upm_upr, upr_upr, lc_lt, lc_gt, lc_ge, lc_le, afit1, afit0, afitI, bifit, not_true_eq_false, not_false_eq_true, if_true, if_false, Bool.false_eq_true, reduceCtorEq, k1557, k1558, g1557_2, hnn, inB_c, inB_d, h2, h3, h5, bi_f, w11]
        · rw [upm_i (by decide), upm_i (by decide)]; exact w12
        · rw [upm_eq, hE']
        · rw [upm_i (by decide), upm_eq, hS']
        · intro h9; rw [hS'] at h9; split at h9 <;> cases h9
end TK
