/-! ===== the texts of the parsers ===== -/
/-- the constants' texts as the run holds them -/
def strOK (u : Nat → Nat → Int) : Prop := ∀ i : Nat, i < 8 → u (2 * i + 1) 1 = 0 ∧ ∀ j : Nat, j < (c_txt.getD i []).length → u (2 * i + 2) j = (c_txt.getD i []).getD j 0
theorem txt_len : ∀ i : Nat, i < 8 → (c_txt.getD i []).length ≤ 5 := by decide
theorem txt_chr : ∀ i : Nat, i < 8 → ∀ j : Nat, j < (c_txt.getD i []).length → 97 ≤ (c_txt.getD i []).getD j 0 ∧ (c_txt.getD i []).getD j 0 ≤ 122 := by decide
theorem zch : ∀ z : Nat, z < 128 → zchr (zand (z : Int) 255) = z := by decide +kernel
theorem zshr0 {x : Int} (h : -2147483648 ≤ x ∧ x < 2147483648) : zshr x 0 = x := by
  unfold zshr
  have e : Int32.ofInt x >>> (Int32.ofInt 0 &&& 31) = Int32.ofInt x := by
    rw [show Int32.ofInt 0 &&& 31 = 0 from by decide]
    apply Int32.toBitVec_inj.mp
    simp
  rw [e, Int32.toInt_ofInt_of_le (by simpa using h.1) (by simpa using h.2)]
section ST
variable {L : Nat} {u : Nat → Nat → Int} {a : Nat → Nat → Nat} {t : Nat × Nat × Nat}
theorem kSt1 {i : Nat} (h : i < 8) : K0 L (2 * i + 1) = (25, 0) := by
  unfold K0; rw [if_neg (by omega), if_pos (by omega), KSt, if_pos (by omega)]
theorem kSt2 {i : Nat} (h : i < 8) : K0 L (2 * i + 2) = (26, (c_txt.getD i []).length) := by
  unfold K0; rw [if_neg (by omega), if_pos (by omega), KSt, if_neg (by omega), show (2 * i + 2 - 2) / 2 = i from by omega]
theorem gSt {i : Nat} (h : i < 8) : G a (2 * i + 1) 0 = 2 * i + 2 := by
  unfold G
  have : inR (2 * i + 1) = false := by unfold inR; simp; omega
  rw [if_neg (by rw [this]; decide), G1, if_pos (by omega), if_pos (by omega)]
theorem J_length {i : Nat} (hi : i < 8) (hs : strOK u) : a_m 352 [a_r (2 * i + 1)] (K0 L, u, G a, t) = some (.inl (some (a_i (((c_txt.getD i []).length : Int)))), (K0 L, u, G a, t)) := by
  have k1 := kSt1 (L := L) hi
  have k2 := kSt2 (L := L) hi
  have g1 := gSt (a := a) hi
  have h0 := (hs i hi).1
  have hl := txt_len i hi
  generalize (c_txt.getD i []).length = n at *
  have f8 : a_fit 8 0 = true := rfl
  have z : zshr (n : Int) 0 = n := zshr0 (by omega)
  simp (disch := first | assumption | omega) only [E_J0_length_8abf5, B_J0_length_8abf5_0, B_J0_length_8abf5_9, E_J0_coder_7d493, B_J0_coder_7d493_0, Option.bind_some, back_v, Option.toList_some, Option.toList_none, List.cons_append, List.nil_append, Nat.reduceAdd, Int.reduceToNat, Int.reduceNeg, upm_eq, upm_r, upm_i, if_pos, if_neg, ite_self, true_or, or_true, true_and, and_true, false_or, or_false, false_and, and_false, wr_id, i10, i01, upr_f, upr_eq, thr58, upm_upr, upr_upr, lc_lt, lc_gt, lc_ge, lc_le, afit1, afit0, afitI, bifit, not_true_eq_false, not_false_eq_true, if_true, if_false, Bool.false_eq_true, reduceCtorEq, k1557, k1558, g1557_2, k1, k2, g1, h0, f8, z, i10]
theorem J_charAt {i : Nat} {j : Int} (hi : i < 8) (hs : strOK u) (hj : 0 ≤ j ∧ j < ((c_txt.getD i []).length : Int)) : a_m 353 [a_r (2 * i + 1), a_i j] (K0 L, u, G a, t) = some (.inl (some (a_i ((c_txt.getD i []).getD j.toNat 0))), (K0 L, u, G a, t)) := by
  have k1 := kSt1 (L := L) hi
  have k2 := kSt2 (L := L) hi
  have g1 := gSt (a := a) hi
  have h0 := (hs i hi).1
  have hc := (hs i hi).2 j.toNat (by omega)
  have hr := txt_chr i hi j.toNat (by omega)
  generalize (c_txt.getD i []).getD j.toNat 0 = c at *
  generalize (c_txt.getD i []).length = n at *
  have z : zchr (zand c 255) = c := by
    have := zch c.toNat (by omega)
    rwa [show ((c.toNat : Nat) : Int) = c from by omega] at this
  have f7 : a_fit 7 c = true := by unfold a_fit; simp; omega
  simp (disch := first | assumption | omega) only [E_J0_charAt_5068e, B_J0_charAt_5068e_0, B_J0_charAt_5068e_4, B_J0_charAt_5068e_15, E_J0_isLatin1_aae02, B_J0_isLatin1_aae02_0, E_J0_checkIndex_df160, B_J0_checkIndex_df160_0, B_J0_checkIndex_df160_8, E_J1_charAt_3b067, B_J1_charAt_3b067_0, B_J1_charAt_3b067_6, E_J3_checkIndex_8e157, B_J3_checkIndex_8e157_0, Option.bind_some, back_v, Option.toList_some, Option.toList_none, List.cons_append, List.nil_append, Nat.reduceAdd, Int.reduceToNat, Int.reduceNeg, upm_eq, upm_r, upm_i, if_pos, if_neg, ite_self, true_or, or_true, true_and, and_true, false_or, or_false, false_and, and_false, wr_id, i10, i01, upr_f, upr_eq, thr58, upm_upr, upr_upr, lc_lt, lc_gt, lc_ge, lc_le, afit1, afit0, afitI, bifit, not_true_eq_false, not_false_eq_true, if_true, if_false, Bool.false_eq_true, reduceCtorEq, k1557, k1558, g1557_2, k1, k2, g1, h0, hc, z, f7, i10]
end ST
