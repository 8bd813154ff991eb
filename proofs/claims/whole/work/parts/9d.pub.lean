/-! ===== publishing as an operation ===== -/
def pubS (s : Nat → Int) (k : Int) (f : Int → Int) : Nat → Int := mPub0 (mSet4 s k f) k
theorem pubS_hd {s : Nat → Int} {k : Int} {f : Int → Int} {j : Nat} (h2 : 0 ≤ s 2 ∧ s 2 < 99) (hk : 0 ≤ k ∧ k < 12) (hj : j ≠ 2) (h : j < 16 ∨ 76 ≤ j ∧ (j : Int) < 550 ∨ 1150 ≤ j) : pubS s k f j = s j := by
  have e2 : mSet4 s k f 2 = s 2 := set4_out hk (by omega)
  unfold pubS
  rw [pub0_hd (by rw [e2]; exact h2) hk hj h, set4_out hk (by omega)]
theorem pubS_2 {s : Nat → Int} {k : Int} {f : Int → Int} (h2 : 0 ≤ s 2 ∧ s 2 < 99) (hk : 0 ≤ k ∧ k < 12) : pubS s k f 2 = s 2 + 1 := by
  have e2 : mSet4 s k f 2 = s 2 := set4_out hk (by omega)
  unfold pubS
  rw [pub0_2 (by rw [e2]; exact h2) hk, e2]
theorem pubS_of {s : Nat → Int} {k j w : Int} {f : Int → Int} (h2 : 0 ≤ s 2 ∧ s 2 < 99) (hk : 0 ≤ k ∧ k < 12) (hj : 0 ≤ j ∧ j < 12) (hw : 0 ≤ w ∧ w < 5) : mOf (pubS s k f) (-1) j w = if j = k then (if w = 4 then s 2 + 1 else f w) else mOf s (-1) j w := by
  have e2 : mSet4 s k f 2 = s 2 := set4_out hk (by omega)
  unfold pubS
  rw [pub0_of (by rw [e2]; exact h2) hk hj hw, set4_of hk hj hw, e2]
  by_cases h1 : j = k
  · by_cases h4 : w = 4
    · rw [if_pos ⟨h1, h4⟩, if_pos h1, if_pos h4]
    · rw [if_neg (by omega), if_pos h1, if_neg h4, if_pos (by omega)]
  · rw [if_neg (by omega), if_neg (by omega), if_neg h1]
theorem pubS_co {s : Nat → Int} {k n w : Int} {f : Int → Int} (h2 : 0 ≤ s 2 ∧ s 2 < 99) (hk : 0 ≤ k ∧ k < 12) (hn : 1 ≤ n ∧ n ≤ 99) (hw : 0 ≤ w ∧ w < 6) : mCo (pubS s k f) n w = if n = s 2 + 1 then (if w = 0 then k else if w = 5 then s 1 else f (w - 1)) else mCo s n w := by
  have e2 : mSet4 s k f 2 = s 2 := set4_out hk (by omega)
  have e1 : mSet4 s k f 1 = s 1 := set4_out hk (by omega)
  have ec : mCo (mSet4 s k f) n w = mCo s n w := by unfold mCo; rw [set4_out hk (by omega)]
  unfold pubS
  rw [pub0_co (by rw [e2]; exact h2) hk hn hw, e2, e1, ec]
  by_cases h1 : n = s 2 + 1
  · rw [if_pos h1, if_pos h1]
    by_cases h0 : w = 0
    · rw [if_pos h0, if_pos h0]
    · rw [if_neg h0, if_neg h0]
      by_cases h5 : w = 5
      · rw [if_pos h5, if_pos h5]
      · rw [if_neg h5, if_neg h5, set4_of hk hk (by omega), if_pos ⟨rfl, by omega⟩]
  · rw [if_neg h1, if_neg h1]
theorem MI_pub {c k : Int} {s : Nat → Int} {f : Int → Int} (h : MI c s) (h2 : s 2 < 99) (hk : 0 ≤ k ∧ k < 12) : MI c (pubS s k f) := by
  obtain ⟨a0, a1, a2, a3, a7, aA, aQ, aL⟩ := h
  have h2' : 0 ≤ s 2 ∧ s 2 < 99 := ⟨a2.1, h2⟩
  have e : ∀ j : Nat, j ≠ 2 → (j < 16 ∨ 76 ≤ j ∧ (j : Int) < 550 ∨ 1150 ≤ j) → pubS s k f j = s j := fun j hj hh => pubS_hd h2' hk hj hh
  have ea : ∀ i x : Int, 0 ≤ i → 0 ≤ x → mAi (pubS s k f) i x = mAi s i x := fun i x i0 x0 => by unfold mAi; exact e _ (by omega) (by omega)
  refine ⟨by rw [e 0 (by decide) (by decide)]; exact a0, by rw [e 1 (by decide) (by decide)]; exact a1, by rw [pubS_2 h2' hk]; omega, by rw [e 3 (by decide) (by decide)]; exact a3, by rw [e 7 (by decide) (by decide), e 1 (by decide) (by decide)]; exact a7, ⟨by rw [e 4 (by decide) (by decide)]; exact aA.1, by rw [e 4 (by decide) (by decide)]; exact aA.2.1, fun i i0 i4 => ?_⟩, fun i i0 i4 => ?_, fun m m0 m3 => ?_⟩
  · rw [e 4 (by decide) (by decide)] at i4
    have := aA.2.2 i i0 i4
    rw [ea i 0 i0 (by decide), ea i 1 i0 (by decide), ea i 4 i0 (by decide)]
    refine ⟨this.1, this.2.1, this.2.2.1, fun h9 => ?_⟩
    have h10 := this.2.2.2 h9
    refine ⟨h10.1, ?_⟩
    rw [pubS_co h2' hk ⟨h10.1, this.1.2⟩ (by decide)]
    split
    · rw [if_pos rfl]; exact hk
    · exact h10.2
  · rw [e 4 (by decide) (by decide)] at i4
    have := aQ i i0 i4
    rw [ea i 4 i0 (by decide), e 7 (by decide) (by decide), e 4 (by decide) (by decide)]
    refine ⟨this.1, fun j hj hj4 => ?_⟩
    rw [ea j 4 (by omega) (by decide)]
    exact this.2 j hj hj4
  · rw [e 3 (by decide) (by decide)] at m3
    have := aL m m0 m3
    have el : ∀ w : Int, 0 ≤ w → w < 19 → mLi (pubS s k f) m w = mLi s m w := fun w w0 w1 => by unfold mLi; exact e _ (by omega) (by omega)
    rw [el 0 (by decide) (by decide), el 1 (by decide) (by decide)]
    exact this
theorem frs_pub {c k : Int} {s : Nat → Int} {f : Int → Int} (h : MI c s) (hf : frs s) (h2 : s 2 < 99) (hk : 0 ≤ k ∧ k < 12) : frs (pubS s k f) := by
  have h2' : 0 ≤ s 2 ∧ s 2 < 99 := ⟨h.2.2.1.1, h2⟩
  have a3 := h.2.2.2.1
  intro l n l0 l3 n0 n1
  rw [pubS_hd h2' hk (by decide) (by decide)] at l3
  rw [pubS_2 h2' hk] at n0
  have h9 := tdiv32 (n := n) (by omega)
  have : mLi (pubS s k f) l (15 + n.tdiv 32) = mLi s l (15 + n.tdiv 32) := by unfold mLi; exact pubS_hd h2' hk (by omega) (by omega)
  rw [this]
  exact hf l n l0 l3 (by omega) n1
theorem frs_airs {c w n len : Int} {s : Nat → Int} (h : MI c s) (hf : frs s) : frs (mAirs s w n len) := by
  have a3 := h.2.2.2.1
  exact frs_congr hf h.2.2.1.1 (airs_hd (by decide) (by decide)) (airs_hd (by decide) (by decide)) (fun l w l0 l1 w0 w1 => by unfold mLi; rw [airs_hd (by omega) (by omega)])
/-- what the class has written down of a correction before it publishes it -/
def vT4 (v : Nat → Nat → Int) (k n tm : Int) : Nat → Nat → Int := upm (upm (upm (upm v 22 7 (n + 1)) 27 (n + 1).toNat k) 28 (n + 1).toNat tm) 29 (n + 1).toNat 0
def vT (v : Nat → Nat → Int) (k n tm p d f e : Int) : Nat → Nat → Int := upm (upm (upm (upm (vT4 v k n tm) 23 (12 + n).toNat p) 24 (12 + n).toNat d) 25 (12 + n).toNat f) 26 (12 + n).toNat e
section PUO
variable {L : Nat} {c : Int} {v w : Nat → Nat → Int} {a : Nat → Nat → Nat} {t : Nat × Nat × Nat}
theorem rel_pub {C : List (Nat → Int)} {s : Nat → Int} {k : Int} {f : Int → Int} (hC : RelC (vw v 21) (a 21) C s) (hM : MI c s) (hf : frs s) (h2 : s 2 < 99) (hk : 0 ≤ k ∧ k < 12) (hw : wfS f) : RelC (vw (upm (vT v k (s 2) (s 1) (f 0) (f 1) (f 2) (f 3)) 30 k.toNat (s 2 + 1)) 21) (a 21) C (pubS s k f) := by
  have h2' : 0 ≤ s 2 ∧ s 2 < 99 := ⟨hM.2.2.1.1, h2⟩
  have e : vw (upm (vT v k (s 2) (s 1) (f 0) (f 1) (f 2) (f 3)) 30 k.toNat (s 2 + 1)) 21 = upm (upm (upm (upm (upm (upm (upm (upm (upm (vw v 21) 1 7 (s 2 + 1)) 6 (s 2 + 1).toNat k) 7 (s 2 + 1).toNat (s 1)) 8 (s 2 + 1).toNat 0) 2 (12 + s 2).toNat (f 0)) 3 (12 + s 2).toNat (f 1)) 4 (12 + s 2).toNat (f 2)) 5 (12 + s 2).toNat (f 3)) 9 k.toNat (s 2 + 1) := by
    unfold vT vT4
    rw [vw_upm (R := 21) (c := 9) (by decide), vw_upm (R := 21) (c := 5) (by decide), vw_upm (R := 21) (c := 4) (by decide), vw_upm (R := 21) (c := 3) (by decide), vw_upm (R := 21) (c := 2) (by decide), vw_upm (R := 21) (c := 8) (by decide), vw_upm (R := 21) (c := 7) (by decide), vw_upm (R := 21) (c := 6) (by decide), vw_upm (R := 21) (c := 1) (by decide)]
  rw [e]
  generalize vw v 21 = V at *
  refine rel_tell hC hM hf h2 hk hw (fun x hx => ?_) ?_ (fun j hj => ?_) (fun w w0 w1 => ?_) (fun j hj => ?_) ?_ ?_ ?_ (fun j hj => ?_) (fun j j2 j16 => pubS_hd h2' hk j2 (.inl j16)) (pubS_2 h2' hk) (fun j j0 j1 => pubS_hd h2' hk (by omega) (by omega)) (fun j w j0 j1 w0 w1 => pubS_of h2' hk ⟨j0, j1⟩ ⟨w0, w1⟩) (fun n w n0 n1 w0 w1 => by rw [pubS_co h2' hk (by omega) ⟨w0, w1⟩, if_neg (by omega)]) ⟨by rw [pubS_co h2' hk (by omega) (by decide), if_pos rfl, if_pos rfl], by rw [pubS_co h2' hk (by omega) (by decide), if_pos rfl, if_neg (by decide), if_pos rfl], fun w w0 w1 => by rw [pubS_co h2' hk (by omega) (by omega), if_pos rfl, if_neg (by omega), if_neg (by omega)]; congr 1; omega⟩
  · simp (disch := omega) only [upm_rf]
  · simp (disch := omega) only [upm_r, upm_eq]
  · simp (disch := omega) only [upm_r, upm_i, and_self]
  · have : w = 0 ∨ w = 1 ∨ w = 2 ∨ w = 3 := by omega
    unfold vW
    rcases this with rfl | rfl | rfl | rfl
    · rw [if_pos rfl]; simp (disch := omega) only [upm_r, upm_eq]
    · rw [if_neg (by decide), if_pos rfl]; simp (disch := omega) only [upm_r, upm_eq]
    · rw [if_neg (by decide), if_neg (by decide), if_pos rfl]; simp (disch := omega) only [upm_r, upm_eq]
    · rw [if_neg (by decide), if_neg (by decide), if_neg (by decide)]; simp (disch := omega) only [upm_r, upm_eq]
  · simp (disch := omega) only [upm_r, upm_i, and_self]
  · simp (disch := omega) only [upm_r, upm_eq]
  · simp (disch := omega) only [upm_r, upm_eq]
  · simp (disch := omega) only [upm_r, upm_eq]
  · by_cases h : j = k.toNat
    · rw [if_pos h, h, upm_eq]
    · rw [if_neg h, upm_i h]; simp (disch := omega) only [upm_r]
theorem RS_airs {s : Nat → Int} {w n len : Int} (hM : MI c s) (hf : frs s) (hi : hi0 s) (h1 : s 1 ≤ 9999) (h4 : s 4 < 30) (h7 : s 7 + 1 ≤ s 1 + (c + 1)) (h6 : s 7 < 1000000) (hw : w = 0 ∨ w = 1) (hn : 0 ≤ n ∧ n ≤ 99) (hw0 : w = 0 → 1 ≤ n ∧ 0 ≤ mCo s n 0 ∧ mCo s n 0 < 12) (hr : Rel (vw v 21) (a 21) (mAirs s w n len)) : RS (c + 1) v a 21 (mAirs s w n len) :=
  ⟨hr, MI_airs hM h4 hw hn hw0 h6 (c + 1) h7, frs_airs hM hf, hi0_airs h4 hi, by rw [airs_5]; exact i32_wr, by rw [airs_hd (by decide) (by decide)]; exact h1⟩
theorem C_publish {s : Nat → Int} {k len : Int} {f : Int → Int} (hS : RS c v a 21 s) (h2 : s 2 < 99) (h4 : s 4 < 30) (hk : 0 ≤ k ∧ k < 12) (hw : wfS f) (hlen : 1 ≤ len ∧ len ≤ 20) (hc : c ≤ 600) : ∃ v2 a2, a_m 32 [a_r 21, a_i len] (K0 L, vT v k (s 2) (s 1) (f 0) (f 1) (f 2) (f 3), G a, t) = some (.inl (some (a_i (s 2 + 1))), (K0 L, v2, G a2, t)) ∧ (∀ q, (q < 21 ∨ 148 ≤ q) → v2 q = v q) ∧ (∀ Q, Q ≠ 21 → a2 Q = a Q) ∧ RS (c + 1) v2 a2 21 (mAirs (pubS s k f) 0 (s 2 + 1) len) := by
  obtain ⟨⟨C, hC⟩, hM, hf, hi, h5, h1⟩ := hS
  have h2' : 0 ≤ s 2 ∧ s 2 < 99 := ⟨hM.2.2.1.1, h2⟩
  have hR := rel_pub hC hM hf h2 hk hw
  have hM' : MI c (pubS s k f) := MI_pub hM h2 hk
  have a7 := hM.2.2.2.2.1
  have a1 := hM.2.1
  have q1 : pubS s k f 1 = s 1 := pubS_hd h2' hk (by decide) (by decide)
  have q2 : pubS s k f 2 = s 2 + 1 := pubS_2 h2' hk
  have q4 : pubS s k f 4 = s 4 := pubS_hd h2' hk (by decide) (by decide)
  have q5 : pubS s k f 5 = s 5 := pubS_hd h2' hk (by decide) (by decide)
  have q7 : pubS s k f 7 = s 7 := pubS_hd h2' hk (by decide) (by decide)
  have qhi : hi0 (pubS s k f) := fun j hj => by rw [pubS_hd h2' hk (by omega) (by omega)]; exact hi j hj
  have qc : 0 ≤ mCo (pubS s k f) (s 2 + 1) 0 ∧ mCo (pubS s k f) (s 2 + 1) 0 < 12 := by rw [pubS_co h2' hk (by omega) (by decide), if_pos rfl, if_pos rfl]; exact hk
  obtain ⟨v2, a2, C2, g0, g1, g2, g3⟩ := C_sendCor (L := L) (t := t) (n := s 2 + 1) (len := len) (.inl rfl) hR hM' (by omega) (by omega) (by omega) (by rw [q5]; exact h5) (by omega) hlen
  have f17 := (rel_facts (R := 21) g1).2.2.2.2.2.1
  rw [airs_hd (by decide) (by decide), q2] at f17
  have f17' : v2 22 7 = s 2 + 1 := f17
  refine ⟨v2, a2, ?_, fun q hq => ?_, g3, RS_airs hM' (frs_pub hM hf h2 hk) qhi (by omega) (by omega) (by omega) (by omega) (.inl rfl) (by omega) (fun _ => ⟨by omega, qc⟩) ⟨C2, g1⟩⟩
  · have t22 : vT v k (s 2) (s 1) (f 0) (f 1) (f 2) (f 3) 22 7 = s 2 + 1 := by unfold vT vT4; simp (disch := omega) only [upm_r, upm_eq]
    have t27 : vT v k (s 2) (s 1) (f 0) (f 1) (f 2) (f 3) 27 (s 2 + 1).toNat = k := by unfold vT vT4; simp (disch := omega) only [upm_r, upm_eq]
    generalize vT v k (s 2) (s 1) (f 0) (f 1) (f 2) (f 3) = V at *
    simp (disch := first | assumption | omega) only [kq21, kq22, kq23, kq24, kq25, kq26, kq27, kq28, kq29, kq30, kq31, kq32, kq123, gq21_0, gq21_1, gq21_2, gq21_3, gq22_0, gq22_1, gq22_2, gq22_3, gq22_4, gq22_5, gq22_6, gq31_0, gq123_j, gq32_j, kq124_l, kq125_l, kq126_l, kq127_l, gq124_2, gq124_3, gq124_4, kq33_p, kq34_p, kq35_p, gq33_6, gq33_7, E_X4_publishLatest, B_X4_publishLatest_0, B_X4_publishLatest_39, Option.bind_some, back_v, Option.toList_some, Option.toList_none, List.cons_append, List.nil_append, Nat.reduceAdd, Int.reduceToNat, Int.reduceNeg, upm_eq, upm_r, upm_i, if_pos, if_neg, ite_self, true_or, or_true, true_and, and_true, false_or, or_false, false_and, and_false, wr_id, i10, i01, upr_f, upr_eq, thr58, upm_upr, upr_upr, lc_lt, lc_gt, lc_ge, lc_le, afit1, afit0, afitI, bifit, not_true_eq_false, not_false_eq_true, if_true, if_false, Bool.false_eq_true, reduceCtorEq, k1557, k1558, g1557_2, t22, t27, g0, f17']
  · rw [g2 q (by omega), upm_rf (by omega)]
    unfold vT vT4
    simp (disch := omega) only [upm_rf]
theorem C_told {k n tm : Int} (hn : 0 ≤ n ∧ n < 99) (h7 : v 22 7 = n) : a_m 83 [a_r 22, a_i k, a_i tm] (K0 L, v, G a, t) = some (.inl none, (K0 L, vT4 v k n tm, G a, t)) := by
  unfold vT4
  have z : wr (n + 1) = n + 1 := wr_id (by omega) (by omega)
  simp (disch := first | assumption | omega) only [kq21, kq22, kq23, kq24, kq25, kq26, kq27, kq28, kq29, kq30, kq31, kq32, kq123, gq21_0, gq21_1, gq21_2, gq21_3, gq22_0, gq22_1, gq22_2, gq22_3, gq22_4, gq22_5, gq22_6, gq31_0, gq123_j, gq32_j, kq124_l, kq125_l, kq126_l, kq127_l, gq124_2, gq124_3, gq124_4, kq33_p, kq34_p, kq35_p, gq33_6, gq33_7, E_X8_tellNext, B_X8_tellNext_0, Option.bind_some, back_v, Option.toList_some, Option.toList_none, List.cons_append, List.nil_append, Nat.reduceAdd, Int.reduceToNat, Int.reduceNeg, upm_eq, upm_r, upm_i, if_pos, if_neg, ite_self, true_or, or_true, true_and, and_true, false_or, or_false, false_and, and_false, wr_id, i10, i01, upr_f, upr_eq, thr58, upm_upr, upr_upr, lc_lt, lc_gt, lc_ge, lc_le, afit1, afit0, afitI, bifit, not_true_eq_false, not_false_eq_true, if_true, if_false, Bool.false_eq_true, reduceCtorEq, k1557, k1558, g1557_2, h7, z]
theorem C_row {k n : Int} {v : Nat → Nat → Int} (hn : 0 ≤ n ∧ n < 99) : a_m 84 [a_r 22, a_i k, a_i (n + 1)] (K0 L, v, G a, t) = some (.inl (some (a_i (12 + n))), (K0 L, v, G a, t)) := by
  rw [C_rowOf (by omega), show rowI k (n + 1) = 12 + n from by unfold rowI; rw [if_neg (by omega)]; omega]
theorem C_vT {k n tm p d f e : Int} (hn : 0 ≤ n ∧ n < 99) : a_m 81 [a_r 22, a_i (12 + n), a_i p, a_i d, a_i f, a_i e] (K0 L, vT4 v k n tm, G a, t) = some (.inl none, (K0 L, vT v k n tm p d f e, G a, t)) := C_setRow (R := 21) (.inl rfl) (by omega)
theorem vT4_7 {k n tm : Int} : vT4 v k n tm 22 7 = n + 1 := by unfold vT4; simp (disch := omega) only [upm_r, upm_eq]
theorem M_pubU {u : Nat → Nat → Int} {s : Nat → Int} {k len : Int} {f : Int → Int} (hM : MI c s) (h2 : s 2 < 99) (h4 : s 4 < 30) (h7 : s 7 < 1000000) (h1 : s 1 ≤ 20000) (hk : 0 ≤ k ∧ k < 12) (hlen : 1 ≤ len ∧ len ≤ 20) : a_m 279 [a_r 1557, a_i k, a_i len] (K0 L, upr u 1558 (mSet4 s k f), G a, t) = some (.inl (some (a_i (s 2 + 1))), (K0 L, upr u 1558 (mAirs (pubS s k f) 0 (s 2 + 1) len), G a, t)) := by
  obtain ⟨a0, a1, a2, a3, a7, aA, aQ, aL⟩ := hM
  have e : ∀ j : Nat, j < 16 → mSet4 s k f j = s j := fun j hj => set4_out hk (by omega)
  have p := M_publishes (L := L) (u := u) (a := a) (t := t) (s := mSet4 s k f) (k := k) (len := len) hk (by rw [e 2 (by decide)]; omega) (by rw [e 4 (by decide)]; exact ⟨aA.1, h4⟩) (by rw [e 3 (by decide)]; omega) (by rw [e 7 (by decide)]; omega) (by rw [e 1 (by decide)]; omega) (by omega) (fun l l0 l1 => by
    rw [e 3 (by decide)] at l1
    have : mLi (mSet4 s k f) l 0 = mLi s l 0 := by unfold mLi; exact set4_out hk (by omega)
    rw [this]; exact (aL l l0 l1).1)
  rw [e 2 (by decide)] at p
  exact p
theorem M_cancel_loop {k len : Int} {u : Nat → Nat → Int} (hk : 0 ≤ k ∧ k < 12) : a_X 282 56 [a_r 1557, a_i k, a_i len, a_i 0] [] (K0 L, u, G a, t) = a_X 282 56 [a_r 1557, a_i k, a_i len, a_i 4] [] (K0 L, upr u 1558 (mSet4 (u 1558) k (fun _ => -1)), G a, t) := by
  have s1 := fun (σ : Nat → Nat → Int) => M_slotOf (u := σ) (t := t) (k := K0 L) (g := G a) (x := -1) (y := k) (by decide) hk
  have e : upr u 1558 (mSet4 (u 1558) k (fun _ => -1)) = upm (upm (upm (upm u 1558 (16 + 60 * (-1 + 1) + 5 * k + 0).toNat (-1)) 1558 (16 + 60 * (-1 + 1) + 5 * k + 1).toNat (-1)) 1558 (16 + 60 * (-1 + 1) + 5 * k + 2).toNat (-1)) 1558 (16 + 60 * (-1 + 1) + 5 * k + 3).toNat (-1) := by
    rw [upm_up1, upm_up1, upm_up1, upm_up1, upr_row2, upr_row2, upr_row2, upr_upr, upr_upr, upr_upr]; rfl
  rw [e]
  have z0 : wr (0 + 1) = 1 := by decide
  have z1 : wr (1 + 1) = 2 := by decide
  have z2 : wr (2 + 1) = 3 := by decide
  have z3 : wr (3 + 1) = 4 := by decide
  have n0 : ¬ (0 : Int) > 3 := by decide
  have n1 : ¬ (1 : Int) > 3 := by decide
  have n2 : ¬ (2 : Int) > 3 := by decide
  have n3 : ¬ (3 : Int) > 3 := by decide
  rw [B_X11_cancel_56]; simp (disch := first | assumption | omega) only [B_X11_cancel_0, B_X11_cancel_4, B_X11_cancel_12, B_X11_cancel_24, B_X11_cancel_33, B_X11_cancel_45, B_X11_cancel_54, B_X11_cancel_86, B_X11_cancel_70, Option.bind_some, back_v, Option.toList_some, Option.toList_none, List.cons_append, List.nil_append, Nat.reduceAdd, Int.reduceToNat, Int.reduceNeg, upm_eq, upm_r, upm_i, if_pos, if_neg, ite_self, true_or, or_true, true_and, and_true, false_or, or_false, false_and, and_false, wr_id, i10, i01, upr_f, upr_eq, thr58, upm_upr, upr_upr, lc_lt, lc_gt, lc_ge, lc_le, afit1, afit0, afitI, bifit, not_true_eq_false, not_false_eq_true, if_true, if_false, Bool.false_eq_true, reduceCtorEq, k1557, k1558, g1557_2, s1, z0, n0]
  rw [B_X11_cancel_56]; simp (disch := first | assumption | omega) only [B_X11_cancel_0, B_X11_cancel_4, B_X11_cancel_12, B_X11_cancel_24, B_X11_cancel_33, B_X11_cancel_45, B_X11_cancel_54, B_X11_cancel_86, B_X11_cancel_70, Option.bind_some, back_v, Option.toList_some, Option.toList_none, List.cons_append, List.nil_append, Nat.reduceAdd, Int.reduceToNat, Int.reduceNeg, upm_eq, upm_r, upm_i, if_pos, if_neg, ite_self, true_or, or_true, true_and, and_true, false_or, or_false, false_and, and_false, wr_id, i10, i01, upr_f, upr_eq, thr58, upm_upr, upr_upr, lc_lt, lc_gt, lc_ge, lc_le, afit1, afit0, afitI, bifit, not_true_eq_false, not_false_eq_true, if_true, if_false, Bool.false_eq_true, reduceCtorEq, k1557, k1558, g1557_2, s1, z1, n1]
  rw [B_X11_cancel_56]; simp (disch := first | assumption | omega) only [B_X11_cancel_0, B_X11_cancel_4, B_X11_cancel_12, B_X11_cancel_24, B_X11_cancel_33, B_X11_cancel_45, B_X11_cancel_54, B_X11_cancel_86, B_X11_cancel_70, Option.bind_some, back_v, Option.toList_some, Option.toList_none, List.cons_append, List.nil_append, Nat.reduceAdd, Int.reduceToNat, Int.reduceNeg, upm_eq, upm_r, upm_i, if_pos, if_neg, ite_self, true_or, or_true, true_and, and_true, false_or, or_false, false_and, and_false, wr_id, i10, i01, upr_f, upr_eq, thr58, upm_upr, upr_upr, lc_lt, lc_gt, lc_ge, lc_le, afit1, afit0, afitI, bifit, not_true_eq_false, not_false_eq_true, if_true, if_false, Bool.false_eq_true, reduceCtorEq, k1557, k1558, g1557_2, s1, z2, n2]
  rw [B_X11_cancel_56]; simp (disch := first | assumption | omega) only [B_X11_cancel_0, B_X11_cancel_4, B_X11_cancel_12, B_X11_cancel_24, B_X11_cancel_33, B_X11_cancel_45, B_X11_cancel_54, B_X11_cancel_86, B_X11_cancel_70, Option.bind_some, back_v, Option.toList_some, Option.toList_none, List.cons_append, List.nil_append, Nat.reduceAdd, Int.reduceToNat, Int.reduceNeg, upm_eq, upm_r, upm_i, if_pos, if_neg, ite_self, true_or, or_true, true_and, and_true, false_or, or_false, false_and, and_false, wr_id, i10, i01, upr_f, upr_eq, thr58, upm_upr, upr_upr, lc_lt, lc_gt, lc_ge, lc_le, afit1, afit0, afitI, bifit, not_true_eq_false, not_false_eq_true, if_true, if_false, Bool.false_eq_true, reduceCtorEq, k1557, k1558, g1557_2, s1, z3, n3]
  rfl
theorem op_correct {k p d f g n : Int} : OP L 130 281 [a_i k, a_i p, a_i d, a_i f, a_i g, a_i n] e3 := by
  intro c v w a t c0 c1 hX
  have be := fun pc len e ls st σ => pub_e (m := 130) (pc := pc) (len := len) (e := e) (ls := ls) (st := st) (σ := σ) (by decide)
  by_cases hv : v 18 8 = 0
  · have hw := XX_ld0 hX hv
    have cn := C_need_bad (L := L) (a := a) (t := t) hv
    have mn := M_notLoaded0 (L := L) (a := a) (t := t) (u := w) hw
    exact OPc_bad (e := 1) (z := 0) (cd := 1) hX (by decide) (by simp (disch := first | assumption | omega) only [k18, g18_0, g18_1, g18_2, g18_3, g18_4, g18_5, g18_6, g18_7, E_X10_correct, B_X10_correct_0, B_X10_correct_4, B_X10_correct_9, B_X10_correct_17, B_X10_correct_25, B_X10_correct_35, B_X10_correct_48, B_X10_correct_57, B_X10_correct_61, B_X10_correct_65, B_X10_correct_76, B_X10_correct_94, B_X10_correct_122, B_X10_correct_131, B_X10_correct_140, Option.bind_some, back_v, Option.toList_some, Option.toList_none, List.cons_append, List.nil_append, Nat.reduceAdd, Int.reduceToNat, Int.reduceNeg, upm_eq, upm_r, upm_i, if_pos, if_neg, ite_self, true_or, or_true, true_and, and_true, false_or, or_false, false_and, and_false, wr_id, i10, i01, upr_f, upr_eq, thr58, upm_upr, upr_upr, lc_lt, lc_gt, lc_ge, lc_le, afit1, afit0, afitI, bifit, not_true_eq_false, not_false_eq_true, if_true, if_false, Bool.false_eq_true, reduceCtorEq, k1557, k1558, g1557_2, cn, be]) (by simp (disch := first | assumption | omega) only [E_X11_correct, B_X11_correct_0, B_X11_correct_4, B_X11_correct_12, B_X11_correct_24, B_X11_correct_37, B_X11_correct_58, B_X11_correct_46, B_X11_correct_67, B_X11_correct_72, B_X11_correct_123, E_X11_isStop, B_X11_isStop_0, B_X11_isStop_9, B_X11_isStop_16, B_X11_isStop_28, B_X11_isStop_43, E_X11_canPublish, B_X11_canPublish_0, B_X11_canPublish_4, B_X11_canPublish_22, E_X11_isLength, B_X11_isLength_0, B_X11_isLength_9, E_X11_hasRoom, B_X11_hasRoom_0, Option.bind_some, back_v, Option.toList_some, Option.toList_none, List.cons_append, List.nil_append, Nat.reduceAdd, Int.reduceToNat, Int.reduceNeg, upm_eq, upm_r, upm_i, if_pos, if_neg, ite_self, true_or, or_true, true_and, and_true, false_or, or_false, false_and, and_false, wr_id, i10, i01, upr_f, upr_eq, thr58, upm_upr, upr_upr, lc_lt, lc_gt, lc_ge, lc_le, afit1, afit0, afitI, bifit, not_true_eq_false, not_false_eq_true, if_true, if_false, Bool.false_eq_true, reduceCtorEq, k1557, k1558, g1557_2, mn])
  obtain ⟨hw, hS⟩ := XX_ld hX hv
  obtain ⟨⟨n3, n3a, n3b⟩, ⟨n2, n2a, n2b⟩, ⟨n4, n4a, n4b⟩, ⟨n1, n1a, n1b⟩, ⟨n0, n0a, n0b⟩, n5, n6⟩ := RS_n hS
  have hR : isRad 21 := .inl rfl
  have hM := hS.2.1
  have hW : upm w 1557 0 0 1558 = w 1558 := upm_rf (by decide)
  have cn := C_need (L := L) (a := a) (t := t) hv
  have mnA := fun aa : Nat → Nat → Nat => M_notLoaded1 (L := L) (a := aa) (t := t) (u := w) hw
  have mn := mnA a
  by_cases hb1 : k < 0 ∨ 11 < k
  · have cb1 := C_needSlot_bad (L := L) (a := a) (t := t) (v := v) (k := k) hb1
    have ib1 : inB k 0 11 = false := inB_f hb1
    have rb1 := M_refuse1 (L := L) (u := w) (a := a) (t := t) (c := 2) (by decide)
    exact OPc_bad (e := 2) (z := 0) (cd := 2) hX (by decide) (by simp (disch := first | assumption | omega) only [k18, g18_0, g18_1, g18_2, g18_3, g18_4, g18_5, g18_6, g18_7, E_X10_correct, B_X10_correct_0, B_X10_correct_4, B_X10_correct_9, B_X10_correct_17, B_X10_correct_25, B_X10_correct_35, B_X10_correct_48, B_X10_correct_57, B_X10_correct_61, B_X10_correct_65, B_X10_correct_76, B_X10_correct_94, B_X10_correct_122, B_X10_correct_131, B_X10_correct_140, Option.bind_some, back_v, Option.toList_some, Option.toList_none, List.cons_append, List.nil_append, Nat.reduceAdd, Int.reduceToNat, Int.reduceNeg, upm_eq, upm_r, upm_i, if_pos, if_neg, ite_self, true_or, or_true, true_and, and_true, false_or, or_false, false_and, and_false, wr_id, i10, i01, upr_f, upr_eq, thr58, upm_upr, upr_upr, lc_lt, lc_gt, lc_ge, lc_le, afit1, afit0, afitI, bifit, not_true_eq_false, not_false_eq_true, if_true, if_false, Bool.false_eq_true, reduceCtorEq, k1557, k1558, g1557_2, cn, cb1, be]) (by simp (disch := first | assumption | omega) only [E_X11_correct, B_X11_correct_0, B_X11_correct_4, B_X11_correct_12, B_X11_correct_24, B_X11_correct_37, B_X11_correct_58, B_X11_correct_46, B_X11_correct_67, B_X11_correct_72, B_X11_correct_123, E_X11_isStop, B_X11_isStop_0, B_X11_isStop_9, B_X11_isStop_16, B_X11_isStop_28, B_X11_isStop_43, E_X11_canPublish, B_X11_canPublish_0, B_X11_canPublish_4, B_X11_canPublish_22, E_X11_isLength, B_X11_isLength_0, B_X11_isLength_9, E_X11_hasRoom, B_X11_hasRoom_0, Option.bind_some, back_v, Option.toList_some, Option.toList_none, List.cons_append, List.nil_append, Nat.reduceAdd, Int.reduceToNat, Int.reduceNeg, upm_eq, upm_r, upm_i, if_pos, if_neg, ite_self, true_or, or_true, true_and, and_true, false_or, or_false, false_and, and_false, wr_id, i10, i01, upr_f, upr_eq, thr58, upm_upr, upr_upr, lc_lt, lc_gt, lc_ge, lc_le, afit1, afit0, afitI, bifit, not_true_eq_false, not_false_eq_true, if_true, if_false, Bool.false_eq_true, reduceCtorEq, k1557, k1558, g1557_2, mn, M_isSlot, bi_t, ib1, bi_f, rb1])
  have cb1 := C_needSlot (L := L) (a := a) (t := t) (v := v) (k := k) (by omega)
  have ib1 : inB k 0 11 = true := inB_t (by omega) (by omega)
  have rb1 := M_refuse0 (L := L) (u := w) (a := a) (t := t) (c := 2)
  by_cases hb2 : p < 0 ∨ 29 < p
  · have cb2 := C_needB_bad (L := L) (a := a) (t := t) (v := v) (x := p) (lo := 0) (hi := 29) hb2
    have ib2 : inB p 0 29 = false := inB_f hb2
    have rb2 := M_refuse1 (L := L) (u := w) (a := a) (t := t) (c := 3) (by decide)
    exact OPc_bad (e := 3) (z := 0) (cd := 3) hX (by decide) (by simp (disch := first | assumption | omega) only [k18, g18_0, g18_1, g18_2, g18_3, g18_4, g18_5, g18_6, g18_7, E_X10_correct, B_X10_correct_0, B_X10_correct_4, B_X10_correct_9, B_X10_correct_17, B_X10_correct_25, B_X10_correct_35, B_X10_correct_48, B_X10_correct_57, B_X10_correct_61, B_X10_correct_65, B_X10_correct_76, B_X10_correct_94, B_X10_correct_122, B_X10_correct_131, B_X10_correct_140, Option.bind_some, back_v, Option.toList_some, Option.toList_none, List.cons_append, List.nil_append, Nat.reduceAdd, Int.reduceToNat, Int.reduceNeg, upm_eq, upm_r, upm_i, if_pos, if_neg, ite_self, true_or, or_true, true_and, and_true, false_or, or_false, false_and, and_false, wr_id, i10, i01, upr_f, upr_eq, thr58, upm_upr, upr_upr, lc_lt, lc_gt, lc_ge, lc_le, afit1, afit0, afitI, bifit, not_true_eq_false, not_false_eq_true, if_true, if_false, Bool.false_eq_true, reduceCtorEq, k1557, k1558, g1557_2, cn, cb1, cb2, be]) (by simp (disch := first | assumption | omega) only [E_X11_correct, B_X11_correct_0, B_X11_correct_4, B_X11_correct_12, B_X11_correct_24, B_X11_correct_37, B_X11_correct_58, B_X11_correct_46, B_X11_correct_67, B_X11_correct_72, B_X11_correct_123, E_X11_isStop, B_X11_isStop_0, B_X11_isStop_9, B_X11_isStop_16, B_X11_isStop_28, B_X11_isStop_43, E_X11_canPublish, B_X11_canPublish_0, B_X11_canPublish_4, B_X11_canPublish_22, E_X11_isLength, B_X11_isLength_0, B_X11_isLength_9, E_X11_hasRoom, B_X11_hasRoom_0, Option.bind_some, back_v, Option.toList_some, Option.toList_none, List.cons_append, List.nil_append, Nat.reduceAdd, Int.reduceToNat, Int.reduceNeg, upm_eq, upm_r, upm_i, if_pos, if_neg, ite_self, true_or, or_true, true_and, and_true, false_or, or_false, false_and, and_false, wr_id, i10, i01, upr_f, upr_eq, thr58, upm_upr, upr_upr, lc_lt, lc_gt, lc_ge, lc_le, afit1, afit0, afitI, bifit, not_true_eq_false, not_false_eq_true, if_true, if_false, Bool.false_eq_true, reduceCtorEq, k1557, k1558, g1557_2, mn, ib1, rb1, M_in, M_isSlot, M_isDay, bi_t, ib2, bi_f, rb2])
  have cb2 := C_needB (L := L) (a := a) (t := t) (v := v) (x := p) (lo := 0) (hi := 29) (by omega)
  have ib2 : inB p 0 29 = true := inB_t (by omega) (by omega)
  have rb2 := M_refuse0 (L := L) (u := w) (a := a) (t := t) (c := 3)
  by_cases hb3 : d < 0 ∨ 6 < d
  · have cb3 := C_needB_bad (L := L) (a := a) (t := t) (v := v) (x := d) (lo := 0) (hi := 6) hb3
    have ib3 : inB d 0 6 = false := inB_f hb3
    have rb3 := M_refuse1 (L := L) (u := w) (a := a) (t := t) (c := 3) (by decide)
    exact OPc_bad (e := 3) (z := 0) (cd := 3) hX (by decide) (by simp (disch := first | assumption | omega) only [k18, g18_0, g18_1, g18_2, g18_3, g18_4, g18_5, g18_6, g18_7, E_X10_correct, B_X10_correct_0, B_X10_correct_4, B_X10_correct_9, B_X10_correct_17, B_X10_correct_25, B_X10_correct_35, B_X10_correct_48, B_X10_correct_57, B_X10_correct_61, B_X10_correct_65, B_X10_correct_76, B_X10_correct_94, B_X10_correct_122, B_X10_correct_131, B_X10_correct_140, Option.bind_some, back_v, Option.toList_some, Option.toList_none, List.cons_append, List.nil_append, Nat.reduceAdd, Int.reduceToNat, Int.reduceNeg, upm_eq, upm_r, upm_i, if_pos, if_neg, ite_self, true_or, or_true, true_and, and_true, false_or, or_false, false_and, and_false, wr_id, i10, i01, upr_f, upr_eq, thr58, upm_upr, upr_upr, lc_lt, lc_gt, lc_ge, lc_le, afit1, afit0, afitI, bifit, not_true_eq_false, not_false_eq_true, if_true, if_false, Bool.false_eq_true, reduceCtorEq, k1557, k1558, g1557_2, cn, cb1, cb2, cb3, be]) (by simp (disch := first | assumption | omega) only [E_X11_correct, B_X11_correct_0, B_X11_correct_4, B_X11_correct_12, B_X11_correct_24, B_X11_correct_37, B_X11_correct_58, B_X11_correct_46, B_X11_correct_67, B_X11_correct_72, B_X11_correct_123, E_X11_isStop, B_X11_isStop_0, B_X11_isStop_9, B_X11_isStop_16, B_X11_isStop_28, B_X11_isStop_43, E_X11_canPublish, B_X11_canPublish_0, B_X11_canPublish_4, B_X11_canPublish_22, E_X11_isLength, B_X11_isLength_0, B_X11_isLength_9, E_X11_hasRoom, B_X11_hasRoom_0, Option.bind_some, back_v, Option.toList_some, Option.toList_none, List.cons_append, List.nil_append, Nat.reduceAdd, Int.reduceToNat, Int.reduceNeg, upm_eq, upm_r, upm_i, if_pos, if_neg, ite_self, true_or, or_true, true_and, and_true, false_or, or_false, false_and, and_false, wr_id, i10, i01, upr_f, upr_eq, thr58, upm_upr, upr_upr, lc_lt, lc_gt, lc_ge, lc_le, afit1, afit0, afitI, bifit, not_true_eq_false, not_false_eq_true, if_true, if_false, Bool.false_eq_true, reduceCtorEq, k1557, k1558, g1557_2, mn, ib1, rb1, ib2, rb2, M_in, M_isSlot, M_isDay, bi_t, ib3, bi_f, rb3])
  have cb3 := C_needB (L := L) (a := a) (t := t) (v := v) (x := d) (lo := 0) (hi := 6) (by omega)
  have ib3 : inB d 0 6 = true := inB_t (by omega) (by omega)
  have rb3 := M_refuse0 (L := L) (u := w) (a := a) (t := t) (c := 3)
  by_cases hb4 : f < 0 ∨ 1438 < f
  · have cb4 := C_needB_bad (L := L) (a := a) (t := t) (v := v) (x := f) (lo := 0) (hi := 1438) hb4
    have ib4 : inB f 0 1438 = false := inB_f hb4
    have rb4 := M_refuse1 (L := L) (u := w) (a := a) (t := t) (c := 3) (by decide)
    exact OPc_bad (e := 3) (z := 0) (cd := 3) hX (by decide) (by simp (disch := first | assumption | omega) only [k18, g18_0, g18_1, g18_2, g18_3, g18_4, g18_5, g18_6, g18_7, E_X10_correct, B_X10_correct_0, B_X10_correct_4, B_X10_correct_9, B_X10_correct_17, B_X10_correct_25, B_X10_correct_35, B_X10_correct_48, B_X10_correct_57, B_X10_correct_61, B_X10_correct_65, B_X10_correct_76, B_X10_correct_94, B_X10_correct_122, B_X10_correct_131, B_X10_correct_140, Option.bind_some, back_v, Option.toList_some, Option.toList_none, List.cons_append, List.nil_append, Nat.reduceAdd, Int.reduceToNat, Int.reduceNeg, upm_eq, upm_r, upm_i, if_pos, if_neg, ite_self, true_or, or_true, true_and, and_true, false_or, or_false, false_and, and_false, wr_id, i10, i01, upr_f, upr_eq, thr58, upm_upr, upr_upr, lc_lt, lc_gt, lc_ge, lc_le, afit1, afit0, afitI, bifit, not_true_eq_false, not_false_eq_true, if_true, if_false, Bool.false_eq_true, reduceCtorEq, k1557, k1558, g1557_2, cn, cb1, cb2, cb3, cb4, be]) (by simp (disch := first | assumption | omega) only [E_X11_correct, B_X11_correct_0, B_X11_correct_4, B_X11_correct_12, B_X11_correct_24, B_X11_correct_37, B_X11_correct_58, B_X11_correct_46, B_X11_correct_67, B_X11_correct_72, B_X11_correct_123, E_X11_isStop, B_X11_isStop_0, B_X11_isStop_9, B_X11_isStop_16, B_X11_isStop_28, B_X11_isStop_43, E_X11_canPublish, B_X11_canPublish_0, B_X11_canPublish_4, B_X11_canPublish_22, E_X11_isLength, B_X11_isLength_0, B_X11_isLength_9, E_X11_hasRoom, B_X11_hasRoom_0, Option.bind_some, back_v, Option.toList_some, Option.toList_none, List.cons_append, List.nil_append, Nat.reduceAdd, Int.reduceToNat, Int.reduceNeg, upm_eq, upm_r, upm_i, if_pos, if_neg, ite_self, true_or, or_true, true_and, and_true, false_or, or_false, false_and, and_false, wr_id, i10, i01, upr_f, upr_eq, thr58, upm_upr, upr_upr, lc_lt, lc_gt, lc_ge, lc_le, afit1, afit0, afitI, bifit, not_true_eq_false, not_false_eq_true, if_true, if_false, Bool.false_eq_true, reduceCtorEq, k1557, k1558, g1557_2, mn, ib1, rb1, ib2, rb2, ib3, rb3, M_in, M_isSlot, M_isDay, bi_t, ib4, bi_f, rb4])
  have cb4 := C_needB (L := L) (a := a) (t := t) (v := v) (x := f) (lo := 0) (hi := 1438) (by omega)
  have ib4 : inB f 0 1438 = true := inB_t (by omega) (by omega)
  have rb4 := M_refuse0 (L := L) (u := w) (a := a) (t := t) (c := 3)
  by_cases hb5 : g < (f+1) ∨ 1439 < g
  · have cb5 := C_needB_bad (L := L) (a := a) (t := t) (v := v) (x := g) (lo := (f+1)) (hi := 1439) hb5
    have ib5 : inB g (f+1) 1439 = false := inB_f hb5
    have rb5 := M_refuse1 (L := L) (u := w) (a := a) (t := t) (c := 3) (by decide)
    exact OPc_bad (e := 3) (z := 0) (cd := 3) hX (by decide) (by simp (disch := first | assumption | omega) only [k18, g18_0, g18_1, g18_2, g18_3, g18_4, g18_5, g18_6, g18_7, E_X10_correct, B_X10_correct_0, B_X10_correct_4, B_X10_correct_9, B_X10_correct_17, B_X10_correct_25, B_X10_correct_35, B_X10_correct_48, B_X10_correct_57, B_X10_correct_61, B_X10_correct_65, B_X10_correct_76, B_X10_correct_94, B_X10_correct_122, B_X10_correct_131, B_X10_correct_140, Option.bind_some, back_v, Option.toList_some, Option.toList_none, List.cons_append, List.nil_append, Nat.reduceAdd, Int.reduceToNat, Int.reduceNeg, upm_eq, upm_r, upm_i, if_pos, if_neg, ite_self, true_or, or_true, true_and, and_true, false_or, or_false, false_and, and_false, wr_id, i10, i01, upr_f, upr_eq, thr58, upm_upr, upr_upr, lc_lt, lc_gt, lc_ge, lc_le, afit1, afit0, afitI, bifit, not_true_eq_false, not_false_eq_true, if_true, if_false, Bool.false_eq_true, reduceCtorEq, k1557, k1558, g1557_2, cn, cb1, cb2, cb3, cb4, cb5, be]) (by simp (disch := first | assumption | omega) only [E_X11_correct, B_X11_correct_0, B_X11_correct_4, B_X11_correct_12, B_X11_correct_24, B_X11_correct_37, B_X11_correct_58, B_X11_correct_46, B_X11_correct_67, B_X11_correct_72, B_X11_correct_123, E_X11_isStop, B_X11_isStop_0, B_X11_isStop_9, B_X11_isStop_16, B_X11_isStop_28, B_X11_isStop_43, E_X11_canPublish, B_X11_canPublish_0, B_X11_canPublish_4, B_X11_canPublish_22, E_X11_isLength, B_X11_isLength_0, B_X11_isLength_9, E_X11_hasRoom, B_X11_hasRoom_0, Option.bind_some, back_v, Option.toList_some, Option.toList_none, List.cons_append, List.nil_append, Nat.reduceAdd, Int.reduceToNat, Int.reduceNeg, upm_eq, upm_r, upm_i, if_pos, if_neg, ite_self, true_or, or_true, true_and, and_true, false_or, or_false, false_and, and_false, wr_id, i10, i01, upr_f, upr_eq, thr58, upm_upr, upr_upr, lc_lt, lc_gt, lc_ge, lc_le, afit1, afit0, afitI, bifit, not_true_eq_false, not_false_eq_true, if_true, if_false, Bool.false_eq_true, reduceCtorEq, k1557, k1558, g1557_2, mn, ib1, rb1, ib2, rb2, ib3, rb3, ib4, rb4, M_in, M_isSlot, M_isDay, bi_t, ib5, bi_f, rb5])
  have cb5 := C_needB (L := L) (a := a) (t := t) (v := v) (x := g) (lo := (f+1)) (hi := 1439) (by omega)
  have ib5 : inB g (f+1) 1439 = true := inB_t (by omega) (by omega)
  have rb5 := M_refuse0 (L := L) (u := w) (a := a) (t := t) (c := 3)
  by_cases hb6 : n < 1 ∨ 20 < n
  · have cb6 := C_needB_bad (L := L) (a := a) (t := t) (v := v) (x := n) (lo := 1) (hi := 20) hb6
    have ib6 : inB n 1 20 = false := inB_f hb6
    have rb6 := M_refuse1 (L := L) (u := w) (a := a) (t := t) (c := 3) (by decide)
    exact OPc_bad (e := 3) (z := 0) (cd := 3) hX (by decide) (by simp (disch := first | assumption | omega) only [k18, g18_0, g18_1, g18_2, g18_3, g18_4, g18_5, g18_6, g18_7, E_X10_correct, B_X10_correct_0, B_X10_correct_4, B_X10_correct_9, B_X10_correct_17, B_X10_correct_25, B_X10_correct_35, B_X10_correct_48, B_X10_correct_57, B_X10_correct_61, B_X10_correct_65, B_X10_correct_76, B_X10_correct_94, B_X10_correct_122, B_X10_correct_131, B_X10_correct_140, Option.bind_some, back_v, Option.toList_some, Option.toList_none, List.cons_append, List.nil_append, Nat.reduceAdd, Int.reduceToNat, Int.reduceNeg, upm_eq, upm_r, upm_i, if_pos, if_neg, ite_self, true_or, or_true, true_and, and_true, false_or, or_false, false_and, and_false, wr_id, i10, i01, upr_f, upr_eq, thr58, upm_upr, upr_upr, lc_lt, lc_gt, lc_ge, lc_le, afit1, afit0, afitI, bifit, not_true_eq_false, not_false_eq_true, if_true, if_false, Bool.false_eq_true, reduceCtorEq, k1557, k1558, g1557_2, cn, cb1, cb2, cb3, cb4, cb5, cb6, be]) (by simp (disch := first | assumption | omega) only [E_X11_correct, B_X11_correct_0, B_X11_correct_4, B_X11_correct_12, B_X11_correct_24, B_X11_correct_37, B_X11_correct_58, B_X11_correct_46, B_X11_correct_67, B_X11_correct_72, B_X11_correct_123, E_X11_isStop, B_X11_isStop_0, B_X11_isStop_9, B_X11_isStop_16, B_X11_isStop_28, B_X11_isStop_43, E_X11_canPublish, B_X11_canPublish_0, B_X11_canPublish_4, B_X11_canPublish_22, E_X11_isLength, B_X11_isLength_0, B_X11_isLength_9, E_X11_hasRoom, B_X11_hasRoom_0, Option.bind_some, back_v, Option.toList_some, Option.toList_none, List.cons_append, List.nil_append, Nat.reduceAdd, Int.reduceToNat, Int.reduceNeg, upm_eq, upm_r, upm_i, if_pos, if_neg, ite_self, true_or, or_true, true_and, and_true, false_or, or_false, false_and, and_false, wr_id, i10, i01, upr_f, upr_eq, thr58, upm_upr, upr_upr, lc_lt, lc_gt, lc_ge, lc_le, afit1, afit0, afitI, bifit, not_true_eq_false, not_false_eq_true, if_true, if_false, Bool.false_eq_true, reduceCtorEq, k1557, k1558, g1557_2, mn, ib1, rb1, ib2, rb2, ib3, rb3, ib4, rb4, ib5, rb5, M_in, M_isSlot, M_isDay, bi_t, ib6, bi_f, rb6])
  have cb6 := C_needB (L := L) (a := a) (t := t) (v := v) (x := n) (lo := 1) (hi := 20) (by omega)
  have ib6 : inB n 1 20 = true := inB_t (by omega) (by omega)
  have rb6 := M_refuse0 (L := L) (u := w) (a := a) (t := t) (c := 3)
  obtain ⟨C, hC⟩ := hS.1
  have k12 : 0 ≤ k ∧ k < 12 := by omega
  have a7 := hM.2.2.2.2.1
  by_cases h99 : w 1558 2 < 99
  case neg =>
    have rb := M_refuse1 (L := L) (u := w) (a := a) (t := t) (c := 3) (by decide)
    have h99' : w 1558 2 ≥ 99 := by omega
    have c9 := C_needNum_bad (L := L) (a := a) (t := t) (v := v) (by omega)
    exact OPc_bad (e := 3) (z := 0) (cd := 3) hX (by decide) (by simp (disch := first | assumption | omega) only [k18, g18_0, g18_1, g18_2, g18_3, g18_4, g18_5, g18_6, g18_7, E_X10_correct, B_X10_correct_0, B_X10_correct_4, B_X10_correct_9, B_X10_correct_17, B_X10_correct_25, B_X10_correct_35, B_X10_correct_48, B_X10_correct_57, B_X10_correct_61, B_X10_correct_65, B_X10_correct_76, B_X10_correct_94, B_X10_correct_122, B_X10_correct_131, B_X10_correct_140, Option.bind_some, back_v, Option.toList_some, Option.toList_none, List.cons_append, List.nil_append, Nat.reduceAdd, Int.reduceToNat, Int.reduceNeg, upm_eq, upm_r, upm_i, if_pos, if_neg, ite_self, true_or, or_true, true_and, and_true, false_or, or_false, false_and, and_false, wr_id, i10, i01, upr_f, upr_eq, thr58, upm_upr, upr_upr, lc_lt, lc_gt, lc_ge, lc_le, afit1, afit0, afitI, bifit, not_true_eq_false, not_false_eq_true, if_true, if_false, Bool.false_eq_true, reduceCtorEq, k1557, k1558, g1557_2, cn, cb1, cb2, cb3, cb4, cb5, cb6, c9, be]) (by simp (disch := first | assumption | omega) only [E_X11_correct, B_X11_correct_0, B_X11_correct_4, B_X11_correct_12, B_X11_correct_24, B_X11_correct_37, B_X11_correct_58, B_X11_correct_46, B_X11_correct_67, B_X11_correct_72, B_X11_correct_123, E_X11_isStop, B_X11_isStop_0, B_X11_isStop_9, B_X11_isStop_16, B_X11_isStop_28, B_X11_isStop_43, E_X11_canPublish, B_X11_canPublish_0, B_X11_canPublish_4, B_X11_canPublish_22, E_X11_isLength, B_X11_isLength_0, B_X11_isLength_9, E_X11_hasRoom, B_X11_hasRoom_0, Option.bind_some, back_v, Option.toList_some, Option.toList_none, List.cons_append, List.nil_append, Nat.reduceAdd, Int.reduceToNat, Int.reduceNeg, upm_eq, upm_r, upm_i, if_pos, if_neg, ite_self, true_or, or_true, true_and, and_true, false_or, or_false, false_and, and_false, wr_id, i10, i01, upr_f, upr_eq, thr58, upm_upr, upr_upr, lc_lt, lc_gt, lc_ge, lc_le, afit1, afit0, afitI, bifit, not_true_eq_false, not_false_eq_true, if_true, if_false, Bool.false_eq_true, reduceCtorEq, k1557, k1558, g1557_2, mn, M_in, M_isSlot, M_isDay, ib1, ib2, ib3, ib4, ib5, ib6, bi_t, bi_f, rb1, rb, hW, h99'])
  have c9 := C_needNum (L := L) (a := a) (t := t) (v := v) (by omega)
  have h99' : ¬ w 1558 2 ≥ 99 := by omega
  by_cases h30 : w 1558 4 < 30
  case neg =>
    have rb := M_refuse1 (L := L) (u := w) (a := a) (t := t) (c := 3) (by decide)
    have h30' : w 1558 4 ≥ 30 := by omega
    have c10 := C_needRoom_bad (L := L) (a := a) (t := t) (v := v) (by omega)
    exact OPc_bad (e := 3) (z := 0) (cd := 3) hX (by decide) (by simp (disch := first | assumption | omega) only [k18, g18_0, g18_1, g18_2, g18_3, g18_4, g18_5, g18_6, g18_7, E_X10_correct, B_X10_correct_0, B_X10_correct_4, B_X10_correct_9, B_X10_correct_17, B_X10_correct_25, B_X10_correct_35, B_X10_correct_48, B_X10_correct_57, B_X10_correct_61, B_X10_correct_65, B_X10_correct_76, B_X10_correct_94, B_X10_correct_122, B_X10_correct_131, B_X10_correct_140, Option.bind_some, back_v, Option.toList_some, Option.toList_none, List.cons_append, List.nil_append, Nat.reduceAdd, Int.reduceToNat, Int.reduceNeg, upm_eq, upm_r, upm_i, if_pos, if_neg, ite_self, true_or, or_true, true_and, and_true, false_or, or_false, false_and, and_false, wr_id, i10, i01, upr_f, upr_eq, thr58, upm_upr, upr_upr, lc_lt, lc_gt, lc_ge, lc_le, afit1, afit0, afitI, bifit, not_true_eq_false, not_false_eq_true, if_true, if_false, Bool.false_eq_true, reduceCtorEq, k1557, k1558, g1557_2, cn, cb1, cb2, cb3, cb4, cb5, cb6, c9, c10, be]) (by simp (disch := first | assumption | omega) only [E_X11_correct, B_X11_correct_0, B_X11_correct_4, B_X11_correct_12, B_X11_correct_24, B_X11_correct_37, B_X11_correct_58, B_X11_correct_46, B_X11_correct_67, B_X11_correct_72, B_X11_correct_123, E_X11_isStop, B_X11_isStop_0, B_X11_isStop_9, B_X11_isStop_16, B_X11_isStop_28, B_X11_isStop_43, E_X11_canPublish, B_X11_canPublish_0, B_X11_canPublish_4, B_X11_canPublish_22, E_X11_isLength, B_X11_isLength_0, B_X11_isLength_9, E_X11_hasRoom, B_X11_hasRoom_0, Option.bind_some, back_v, Option.toList_some, Option.toList_none, List.cons_append, List.nil_append, Nat.reduceAdd, Int.reduceToNat, Int.reduceNeg, upm_eq, upm_r, upm_i, if_pos, if_neg, ite_self, true_or, or_true, true_and, and_true, false_or, or_false, false_and, and_false, wr_id, i10, i01, upr_f, upr_eq, thr58, upm_upr, upr_upr, lc_lt, lc_gt, lc_ge, lc_le, afit1, afit0, afitI, bifit, not_true_eq_false, not_false_eq_true, if_true, if_false, Bool.false_eq_true, reduceCtorEq, k1557, k1558, g1557_2, mn, M_in, M_isSlot, M_isDay, ib1, ib2, ib3, ib4, ib5, ib6, bi_t, bi_f, rb1, rb, hW, h99', h30'])
  have h30' : ¬ w 1558 4 ≥ 30 := by omega
  have c10 := C_needRoom (L := L) (a := a) (t := t) (v := v) (by omega)
  obtain ⟨v1, w1, hk, kc, m1⟩ := keepOp (L := L) (t := t) hX hv
  have hS1 := hk.2.2.2.2.2.2.1
  have w58 := hk.2.2.2.2.2.2.2
  obtain ⟨-, ⟨x2, -, -⟩, -, ⟨x1, -, -⟩, -⟩ := RS_n hS1
  have hwf : wfS (fun w => if w = 0 then p else if w = 1 then d else if w = 2 then f else g) := .inr ⟨by show 0 ≤ p ∧ p ≤ 29; omega, by show 0 ≤ d ∧ d ≤ 6; omega, by show 0 ≤ f; omega, by show f < g; omega, by show g ≤ 1439; omega⟩
  obtain ⟨v2, a2, o1, o2, o3, o4⟩ := C_publish (L := L) (t := t) (k := k) (len := n) hS1 h99 h30 k12 hwf (by omega) (by omega)
  have m1' := m1 a2 t
  have es : upr w1 1558 (w 1558) = w1 := by rw [← w58]; exact upr_self
  have pm := M_pubU (L := L) (a := a2) (t := t) (c := c) (u := w1) (s := w 1558) (k := k) (len := n) (f := (fun w => if w = 0 then p else if w = 1 then d else if w = 2 then f else g)) hM h99 h30 (by omega) (by omega) k12 (by omega)
  have mnA2 := mnA a2
  have ct := C_told (L := L) (a := a) (t := t) (v := v1) (k := k) (n := w 1558 2) (tm := w 1558 1) ⟨n2a, h99⟩ x2
  have cr := C_row (L := L) (a := a) (t := t) (v := vT4 v1 k (w 1558 2) (w 1558 1)) (k := k) (n := w 1558 2) ⟨n2a, h99⟩
  have t7 := vT4_7 (v := v1) (k := k) (n := w 1558 2) (tm := w 1558 1)
  have rb := M_refuse0 (L := L) (u := w) (a := a2) (t := t) (c := 3)
  have rb2 := M_refuse0 (L := L) (u := w) (a := a2) (t := t) (c := 2)
  refine OPc_kp (z := w 1558 2 + 1) (v2 := v2) (w2 := upr w1 1558 (mAirs (pubS (w 1558) k (fun w => if w = 0 then p else if w = 1 then d else if w = 2 then f else g)) 0 (w 1558 2 + 1) n)) hX hv hk o2 (fun q hq => upr_rf hq) o3 (by rw [upr_row2]; exact o4) ?_ ?_
  · have cv := C_vT (L := L) (a := a) (t := t) (v := v1) (k := k) (n := w 1558 2) (tm := w 1558 1) (p := p) (d := d) (f := f) (e := g) ⟨n2a, h99⟩
    have o1' : a_m 32 [a_r 21, a_i n] (K0 L, vT v1 k (w 1558 2) (w 1558 1) p d f g, G a, t) = some (.inl (some (a_i (w 1558 2 + 1))), (K0 L, v2, G a2, t)) := o1
    simp (disch := first | assumption | omega) only [k18, g18_0, g18_1, g18_2, g18_3, g18_4, g18_5, g18_6, g18_7, k275, k276, g275_0, g276, kq21, kq22, kq23, kq24, kq25, kq26, kq27, kq28, kq29, kq30, kq31, kq32, kq123, gq21_0, gq21_1, gq21_2, gq21_3, gq22_0, gq22_1, gq22_2, gq22_3, gq22_4, gq22_5, gq22_6, gq31_0, gq123_j, gq32_j, kq124_l, kq125_l, kq126_l, kq127_l, gq124_2, gq124_3, gq124_4, kq33_p, kq34_p, kq35_p, gq33_6, gq33_7, E_X10_correct, B_X10_correct_0, B_X10_correct_4, B_X10_correct_9, B_X10_correct_17, B_X10_correct_25, B_X10_correct_35, B_X10_correct_48, B_X10_correct_57, B_X10_correct_61, B_X10_correct_65, B_X10_correct_76, B_X10_correct_94, B_X10_correct_122, B_X10_correct_131, B_X10_correct_140, Option.bind_some, back_v, Option.toList_some, Option.toList_none, List.cons_append, List.nil_append, Nat.reduceAdd, Int.reduceToNat, Int.reduceNeg, upm_eq, upm_r, upm_i, if_pos, if_neg, ite_self, true_or, or_true, true_and, and_true, false_or, or_false, false_and, and_false, wr_id, i10, i01, upr_f, upr_eq, thr58, upm_upr, upr_upr, lc_lt, lc_gt, lc_ge, lc_le, afit1, afit0, afitI, bifit, not_true_eq_false, not_false_eq_true, if_true, if_false, Bool.false_eq_true, reduceCtorEq, k1557, k1558, g1557_2, cn, cb1, cb2, cb3, cb4, cb5, cb6, c9, c10, kc, x1, ct, t7, cr, cv, o1']
  · have ss := M_slotOf (u := w1) (t := t) (k := K0 L) (g := G a2) (x := -1) (y := k) (by decide) k12
    have e : upr w1 1558 (mSet4 (w 1558) k (fun w => if w = 0 then p else if w = 1 then d else if w = 2 then f else g)) = upm (upm (upm (upm w1 1558 (16 + 60 * (-1 + 1) + 5 * k + 0).toNat p) 1558 (16 + 60 * (-1 + 1) + 5 * k + 1).toNat d) 1558 (16 + 60 * (-1 + 1) + 5 * k + 2).toNat f) 1558 (16 + 60 * (-1 + 1) + 5 * k + 3).toNat g := by
      rw [upm_up1, upm_up1, upm_up1, upm_up1, upr_row2, upr_row2, upr_row2, upr_upr, upr_upr, upr_upr, w58]; rfl
    rw [e] at pm
    simp (disch := first | assumption | omega) only [E_X11_correct, B_X11_correct_0, B_X11_correct_4, B_X11_correct_12, B_X11_correct_24, B_X11_correct_37, B_X11_correct_58, B_X11_correct_46, B_X11_correct_67, B_X11_correct_72, B_X11_correct_123, E_X11_isStop, B_X11_isStop_0, B_X11_isStop_9, B_X11_isStop_16, B_X11_isStop_28, B_X11_isStop_43, E_X11_canPublish, B_X11_canPublish_0, B_X11_canPublish_4, B_X11_canPublish_22, E_X11_isLength, B_X11_isLength_0, B_X11_isLength_9, E_X11_hasRoom, B_X11_hasRoom_0, Option.bind_some, back_v, Option.toList_some, Option.toList_none, List.cons_append, List.nil_append, Nat.reduceAdd, Int.reduceToNat, Int.reduceNeg, upm_eq, upm_r, upm_i, if_pos, if_neg, ite_self, true_or, or_true, true_and, and_true, false_or, or_false, false_and, and_false, wr_id, i10, i01, upr_f, upr_eq, thr58, upm_upr, upr_upr, lc_lt, lc_gt, lc_ge, lc_le, afit1, afit0, afitI, bifit, not_true_eq_false, not_false_eq_true, if_true, if_false, Bool.false_eq_true, reduceCtorEq, k1557, k1558, g1557_2, mnA2, M_in, M_isSlot, M_isDay, ib1, ib2, ib3, ib4, ib5, ib6, bi_t, rb, rb2, hW, h99', h30', m1', ss, pm]
theorem op_cancel {k n : Int} : OP L 131 282 [a_i k, a_i n] e3 := by
  intro c v w a t c0 c1 hX
  have be := fun pc len e ls st σ => pub_e (m := 131) (pc := pc) (len := len) (e := e) (ls := ls) (st := st) (σ := σ) (by decide)
  by_cases hv : v 18 8 = 0
  · have hw := XX_ld0 hX hv
    have cn := C_need_bad (L := L) (a := a) (t := t) hv
    have mn := M_notLoaded0 (L := L) (a := a) (t := t) (u := w) hw
    exact OPc_bad (e := 1) (z := 0) (cd := 1) hX (by decide) (by simp (disch := first | assumption | omega) only [k18, g18_0, g18_1, g18_2, g18_3, g18_4, g18_5, g18_6, g18_7, E_X10_cancel, B_X10_cancel_0, B_X10_cancel_4, B_X10_cancel_9, B_X10_cancel_17, B_X10_cancel_21, B_X10_cancel_25, B_X10_cancel_36, B_X10_cancel_54, B_X10_cancel_82, B_X10_cancel_85, B_X10_cancel_93, Option.bind_some, back_v, Option.toList_some, Option.toList_none, List.cons_append, List.nil_append, Nat.reduceAdd, Int.reduceToNat, Int.reduceNeg, upm_eq, upm_r, upm_i, if_pos, if_neg, ite_self, true_or, or_true, true_and, and_true, false_or, or_false, false_and, and_false, wr_id, i10, i01, upr_f, upr_eq, thr58, upm_upr, upr_upr, lc_lt, lc_gt, lc_ge, lc_le, afit1, afit0, afitI, bifit, not_true_eq_false, not_false_eq_true, if_true, if_false, Bool.false_eq_true, reduceCtorEq, k1557, k1558, g1557_2, cn, be]) (by simp (disch := first | assumption | omega) only [E_X11_cancel, B_X11_cancel_0, B_X11_cancel_4, B_X11_cancel_12, B_X11_cancel_24, B_X11_cancel_33, B_X11_cancel_45, B_X11_cancel_54, B_X11_cancel_86, B_X11_cancel_70, E_X11_canPublish, B_X11_canPublish_0, B_X11_canPublish_4, B_X11_canPublish_22, E_X11_isLength, B_X11_isLength_0, B_X11_isLength_9, E_X11_hasRoom, B_X11_hasRoom_0, Option.bind_some, back_v, Option.toList_some, Option.toList_none, List.cons_append, List.nil_append, Nat.reduceAdd, Int.reduceToNat, Int.reduceNeg, upm_eq, upm_r, upm_i, if_pos, if_neg, ite_self, true_or, or_true, true_and, and_true, false_or, or_false, false_and, and_false, wr_id, i10, i01, upr_f, upr_eq, thr58, upm_upr, upr_upr, lc_lt, lc_gt, lc_ge, lc_le, afit1, afit0, afitI, bifit, not_true_eq_false, not_false_eq_true, if_true, if_false, Bool.false_eq_true, reduceCtorEq, k1557, k1558, g1557_2, mn])
  obtain ⟨hw, hS⟩ := XX_ld hX hv
  obtain ⟨⟨n3, n3a, n3b⟩, ⟨n2, n2a, n2b⟩, ⟨n4, n4a, n4b⟩, ⟨n1, n1a, n1b⟩, ⟨n0, n0a, n0b⟩, n5, n6⟩ := RS_n hS
  have hR : isRad 21 := .inl rfl
  have hM := hS.2.1
  have hW : upm w 1557 0 0 1558 = w 1558 := upm_rf (by decide)
  have cn := C_need (L := L) (a := a) (t := t) hv
  have mnA := fun aa : Nat → Nat → Nat => M_notLoaded1 (L := L) (a := aa) (t := t) (u := w) hw
  have mn := mnA a
  by_cases hb1 : k < 0 ∨ 11 < k
  · have cb1 := C_needSlot_bad (L := L) (a := a) (t := t) (v := v) (k := k) hb1
    have ib1 : inB k 0 11 = false := inB_f hb1
    have rb1 := M_refuse1 (L := L) (u := w) (a := a) (t := t) (c := 2) (by decide)
    exact OPc_bad (e := 2) (z := 0) (cd := 2) hX (by decide) (by simp (disch := first | assumption | omega) only [k18, g18_0, g18_1, g18_2, g18_3, g18_4, g18_5, g18_6, g18_7, E_X10_cancel, B_X10_cancel_0, B_X10_cancel_4, B_X10_cancel_9, B_X10_cancel_17, B_X10_cancel_21, B_X10_cancel_25, B_X10_cancel_36, B_X10_cancel_54, B_X10_cancel_82, B_X10_cancel_85, B_X10_cancel_93, Option.bind_some, back_v, Option.toList_some, Option.toList_none, List.cons_append, List.nil_append, Nat.reduceAdd, Int.reduceToNat, Int.reduceNeg, upm_eq, upm_r, upm_i, if_pos, if_neg, ite_self, true_or, or_true, true_and, and_true, false_or, or_false, false_and, and_false, wr_id, i10, i01, upr_f, upr_eq, thr58, upm_upr, upr_upr, lc_lt, lc_gt, lc_ge, lc_le, afit1, afit0, afitI, bifit, not_true_eq_false, not_false_eq_true, if_true, if_false, Bool.false_eq_true, reduceCtorEq, k1557, k1558, g1557_2, cn, cb1, be]) (by simp (disch := first | assumption | omega) only [E_X11_cancel, B_X11_cancel_0, B_X11_cancel_4, B_X11_cancel_12, B_X11_cancel_24, B_X11_cancel_33, B_X11_cancel_45, B_X11_cancel_54, B_X11_cancel_86, B_X11_cancel_70, E_X11_canPublish, B_X11_canPublish_0, B_X11_canPublish_4, B_X11_canPublish_22, E_X11_isLength, B_X11_isLength_0, B_X11_isLength_9, E_X11_hasRoom, B_X11_hasRoom_0, Option.bind_some, back_v, Option.toList_some, Option.toList_none, List.cons_append, List.nil_append, Nat.reduceAdd, Int.reduceToNat, Int.reduceNeg, upm_eq, upm_r, upm_i, if_pos, if_neg, ite_self, true_or, or_true, true_and, and_true, false_or, or_false, false_and, and_false, wr_id, i10, i01, upr_f, upr_eq, thr58, upm_upr, upr_upr, lc_lt, lc_gt, lc_ge, lc_le, afit1, afit0, afitI, bifit, not_true_eq_false, not_false_eq_true, if_true, if_false, Bool.false_eq_true, reduceCtorEq, k1557, k1558, g1557_2, mn, M_isSlot, bi_t, ib1, bi_f, rb1])
  have cb1 := C_needSlot (L := L) (a := a) (t := t) (v := v) (k := k) (by omega)
  have ib1 : inB k 0 11 = true := inB_t (by omega) (by omega)
  have rb1 := M_refuse0 (L := L) (u := w) (a := a) (t := t) (c := 2)
  by_cases hb2 : n < 1 ∨ 20 < n
  · have cb2 := C_needB_bad (L := L) (a := a) (t := t) (v := v) (x := n) (lo := 1) (hi := 20) hb2
    have ib2 : inB n 1 20 = false := inB_f hb2
    have rb2 := M_refuse1 (L := L) (u := w) (a := a) (t := t) (c := 3) (by decide)
    exact OPc_bad (e := 3) (z := 0) (cd := 3) hX (by decide) (by simp (disch := first | assumption | omega) only [k18, g18_0, g18_1, g18_2, g18_3, g18_4, g18_5, g18_6, g18_7, E_X10_cancel, B_X10_cancel_0, B_X10_cancel_4, B_X10_cancel_9, B_X10_cancel_17, B_X10_cancel_21, B_X10_cancel_25, B_X10_cancel_36, B_X10_cancel_54, B_X10_cancel_82, B_X10_cancel_85, B_X10_cancel_93, Option.bind_some, back_v, Option.toList_some, Option.toList_none, List.cons_append, List.nil_append, Nat.reduceAdd, Int.reduceToNat, Int.reduceNeg, upm_eq, upm_r, upm_i, if_pos, if_neg, ite_self, true_or, or_true, true_and, and_true, false_or, or_false, false_and, and_false, wr_id, i10, i01, upr_f, upr_eq, thr58, upm_upr, upr_upr, lc_lt, lc_gt, lc_ge, lc_le, afit1, afit0, afitI, bifit, not_true_eq_false, not_false_eq_true, if_true, if_false, Bool.false_eq_true, reduceCtorEq, k1557, k1558, g1557_2, cn, cb1, cb2, be]) (by simp (disch := first | assumption | omega) only [E_X11_cancel, B_X11_cancel_0, B_X11_cancel_4, B_X11_cancel_12, B_X11_cancel_24, B_X11_cancel_33, B_X11_cancel_45, B_X11_cancel_54, B_X11_cancel_86, B_X11_cancel_70, E_X11_canPublish, B_X11_canPublish_0, B_X11_canPublish_4, B_X11_canPublish_22, E_X11_isLength, B_X11_isLength_0, B_X11_isLength_9, E_X11_hasRoom, B_X11_hasRoom_0, Option.bind_some, back_v, Option.toList_some, Option.toList_none, List.cons_append, List.nil_append, Nat.reduceAdd, Int.reduceToNat, Int.reduceNeg, upm_eq, upm_r, upm_i, if_pos, if_neg, ite_self, true_or, or_true, true_and, and_true, false_or, or_false, false_and, and_false, wr_id, i10, i01, upr_f, upr_eq, thr58, upm_upr, upr_upr, lc_lt, lc_gt, lc_ge, lc_le, afit1, afit0, afitI, bifit, not_true_eq_false, not_false_eq_true, if_true, if_false, Bool.false_eq_true, reduceCtorEq, k1557, k1558, g1557_2, mn, ib1, rb1, M_in, M_isSlot, M_isDay, bi_t, ib2, bi_f, rb2])
  have cb2 := C_needB (L := L) (a := a) (t := t) (v := v) (x := n) (lo := 1) (hi := 20) (by omega)
  have ib2 : inB n 1 20 = true := inB_t (by omega) (by omega)
  have rb2 := M_refuse0 (L := L) (u := w) (a := a) (t := t) (c := 3)
  obtain ⟨C, hC⟩ := hS.1
  have k12 : 0 ≤ k ∧ k < 12 := by omega
  have a7 := hM.2.2.2.2.1
  by_cases h99 : w 1558 2 < 99
  case neg =>
    have rb := M_refuse1 (L := L) (u := w) (a := a) (t := t) (c := 3) (by decide)
    have h99' : w 1558 2 ≥ 99 := by omega
    have c9 := C_needNum_bad (L := L) (a := a) (t := t) (v := v) (by omega)
    exact OPc_bad (e := 3) (z := 0) (cd := 3) hX (by decide) (by simp (disch := first | assumption | omega) only [k18, g18_0, g18_1, g18_2, g18_3, g18_4, g18_5, g18_6, g18_7, E_X10_cancel, B_X10_cancel_0, B_X10_cancel_4, B_X10_cancel_9, B_X10_cancel_17, B_X10_cancel_21, B_X10_cancel_25, B_X10_cancel_36, B_X10_cancel_54, B_X10_cancel_82, B_X10_cancel_85, B_X10_cancel_93, Option.bind_some, back_v, Option.toList_some, Option.toList_none, List.cons_append, List.nil_append, Nat.reduceAdd, Int.reduceToNat, Int.reduceNeg, upm_eq, upm_r, upm_i, if_pos, if_neg, ite_self, true_or, or_true, true_and, and_true, false_or, or_false, false_and, and_false, wr_id, i10, i01, upr_f, upr_eq, thr58, upm_upr, upr_upr, lc_lt, lc_gt, lc_ge, lc_le, afit1, afit0, afitI, bifit, not_true_eq_false, not_false_eq_true, if_true, if_false, Bool.false_eq_true, reduceCtorEq, k1557, k1558, g1557_2, cn, cb1, cb2, c9, be]) (by simp (disch := first | assumption | omega) only [E_X11_cancel, B_X11_cancel_0, B_X11_cancel_4, B_X11_cancel_12, B_X11_cancel_24, B_X11_cancel_33, B_X11_cancel_45, B_X11_cancel_54, B_X11_cancel_86, B_X11_cancel_70, E_X11_canPublish, B_X11_canPublish_0, B_X11_canPublish_4, B_X11_canPublish_22, E_X11_isLength, B_X11_isLength_0, B_X11_isLength_9, E_X11_hasRoom, B_X11_hasRoom_0, Option.bind_some, back_v, Option.toList_some, Option.toList_none, List.cons_append, List.nil_append, Nat.reduceAdd, Int.reduceToNat, Int.reduceNeg, upm_eq, upm_r, upm_i, if_pos, if_neg, ite_self, true_or, or_true, true_and, and_true, false_or, or_false, false_and, and_false, wr_id, i10, i01, upr_f, upr_eq, thr58, upm_upr, upr_upr, lc_lt, lc_gt, lc_ge, lc_le, afit1, afit0, afitI, bifit, not_true_eq_false, not_false_eq_true, if_true, if_false, Bool.false_eq_true, reduceCtorEq, k1557, k1558, g1557_2, mn, M_in, M_isSlot, M_isDay, ib1, ib2, bi_t, bi_f, rb1, rb, hW, h99'])
  have c9 := C_needNum (L := L) (a := a) (t := t) (v := v) (by omega)
  have h99' : ¬ w 1558 2 ≥ 99 := by omega
  by_cases h30 : w 1558 4 < 30
  case neg =>
    have rb := M_refuse1 (L := L) (u := w) (a := a) (t := t) (c := 3) (by decide)
    have h30' : w 1558 4 ≥ 30 := by omega
    have c10 := C_needRoom_bad (L := L) (a := a) (t := t) (v := v) (by omega)
    exact OPc_bad (e := 3) (z := 0) (cd := 3) hX (by decide) (by simp (disch := first | assumption | omega) only [k18, g18_0, g18_1, g18_2, g18_3, g18_4, g18_5, g18_6, g18_7, E_X10_cancel, B_X10_cancel_0, B_X10_cancel_4, B_X10_cancel_9, B_X10_cancel_17, B_X10_cancel_21, B_X10_cancel_25, B_X10_cancel_36, B_X10_cancel_54, B_X10_cancel_82, B_X10_cancel_85, B_X10_cancel_93, Option.bind_some, back_v, Option.toList_some, Option.toList_none, List.cons_append, List.nil_append, Nat.reduceAdd, Int.reduceToNat, Int.reduceNeg, upm_eq, upm_r, upm_i, if_pos, if_neg, ite_self, true_or, or_true, true_and, and_true, false_or, or_false, false_and, and_false, wr_id, i10, i01, upr_f, upr_eq, thr58, upm_upr, upr_upr, lc_lt, lc_gt, lc_ge, lc_le, afit1, afit0, afitI, bifit, not_true_eq_false, not_false_eq_true, if_true, if_false, Bool.false_eq_true, reduceCtorEq, k1557, k1558, g1557_2, cn, cb1, cb2, c9, c10, be]) (by simp (disch := first | assumption | omega) only [E_X11_cancel, B_X11_cancel_0, B_X11_cancel_4, B_X11_cancel_12, B_X11_cancel_24, B_X11_cancel_33, B_X11_cancel_45, B_X11_cancel_54, B_X11_cancel_86, B_X11_cancel_70, E_X11_canPublish, B_X11_canPublish_0, B_X11_canPublish_4, B_X11_canPublish_22, E_X11_isLength, B_X11_isLength_0, B_X11_isLength_9, E_X11_hasRoom, B_X11_hasRoom_0, Option.bind_some, back_v, Option.toList_some, Option.toList_none, List.cons_append, List.nil_append, Nat.reduceAdd, Int.reduceToNat, Int.reduceNeg, upm_eq, upm_r, upm_i, if_pos, if_neg, ite_self, true_or, or_true, true_and, and_true, false_or, or_false, false_and, and_false, wr_id, i10, i01, upr_f, upr_eq, thr58, upm_upr, upr_upr, lc_lt, lc_gt, lc_ge, lc_le, afit1, afit0, afitI, bifit, not_true_eq_false, not_false_eq_true, if_true, if_false, Bool.false_eq_true, reduceCtorEq, k1557, k1558, g1557_2, mn, M_in, M_isSlot, M_isDay, ib1, ib2, bi_t, bi_f, rb1, rb, hW, h99', h30'])
  have h30' : ¬ w 1558 4 ≥ 30 := by omega
  have c10 := C_needRoom (L := L) (a := a) (t := t) (v := v) (by omega)
  obtain ⟨v1, w1, hk, kc, m1⟩ := keepOp (L := L) (t := t) hX hv
  have hS1 := hk.2.2.2.2.2.2.1
  have w58 := hk.2.2.2.2.2.2.2
  obtain ⟨-, ⟨x2, -, -⟩, -, ⟨x1, -, -⟩, -⟩ := RS_n hS1
  have hwf : wfS (fun _ => -1) := .inl ⟨rfl, rfl, rfl, rfl⟩
  obtain ⟨v2, a2, o1, o2, o3, o4⟩ := C_publish (L := L) (t := t) (k := k) (len := n) hS1 h99 h30 k12 hwf (by omega) (by omega)
  have m1' := m1 a2 t
  have es : upr w1 1558 (w 1558) = w1 := by rw [← w58]; exact upr_self
  have pm := M_pubU (L := L) (a := a2) (t := t) (c := c) (u := w1) (s := w 1558) (k := k) (len := n) (f := (fun _ => -1)) hM h99 h30 (by omega) (by omega) k12 (by omega)
  have mnA2 := mnA a2
  have ct := C_told (L := L) (a := a) (t := t) (v := v1) (k := k) (n := w 1558 2) (tm := w 1558 1) ⟨n2a, h99⟩ x2
  have cr := C_row (L := L) (a := a) (t := t) (v := vT4 v1 k (w 1558 2) (w 1558 1)) (k := k) (n := w 1558 2) ⟨n2a, h99⟩
  have t7 := vT4_7 (v := v1) (k := k) (n := w 1558 2) (tm := w 1558 1)
  have rb := M_refuse0 (L := L) (u := w) (a := a2) (t := t) (c := 3)
  have rb2 := M_refuse0 (L := L) (u := w) (a := a2) (t := t) (c := 2)
  refine OPc_kp (z := w 1558 2 + 1) (v2 := v2) (w2 := upr w1 1558 (mAirs (pubS (w 1558) k (fun _ => -1)) 0 (w 1558 2 + 1) n)) hX hv hk o2 (fun q hq => upr_rf hq) o3 (by rw [upr_row2]; exact o4) ?_ ?_
  · have cv : a_m 82 [a_r 22, a_i (12 + w 1558 2)] (K0 L, vT4 v1 k (w 1558 2) (w 1558 1), G a, t) = some (.inl none, (K0 L, vT v1 k (w 1558 2) (w 1558 1) (-1) (-1) (-1) (-1), G a, t)) := by
      have cv := C_vT (L := L) (a := a) (t := t) (v := v1) (k := k) (n := w 1558 2) (tm := w 1558 1) (p := -1) (d := -1) (f := -1) (e := -1) ⟨n2a, h99⟩
      simp (disch := first | assumption | omega) only [kq21, kq22, kq23, kq24, kq25, kq26, kq27, kq28, kq29, kq30, kq31, kq32, kq123, gq21_0, gq21_1, gq21_2, gq21_3, gq22_0, gq22_1, gq22_2, gq22_3, gq22_4, gq22_5, gq22_6, gq31_0, gq123_j, gq32_j, kq124_l, kq125_l, kq126_l, kq127_l, gq124_2, gq124_3, gq124_4, kq33_p, kq34_p, kq35_p, gq33_6, gq33_7, E_X8_setFree, B_X8_setFree_0, B_X8_setFree_9, Option.bind_some, back_v, Option.toList_some, Option.toList_none, List.cons_append, List.nil_append, Nat.reduceAdd, Int.reduceToNat, Int.reduceNeg, upm_eq, upm_r, upm_i, if_pos, if_neg, ite_self, true_or, or_true, true_and, and_true, false_or, or_false, false_and, and_false, wr_id, i10, i01, upr_f, upr_eq, thr58, upm_upr, upr_upr, lc_lt, lc_gt, lc_ge, lc_le, afit1, afit0, afitI, bifit, not_true_eq_false, not_false_eq_true, if_true, if_false, Bool.false_eq_true, reduceCtorEq, k1557, k1558, g1557_2, cv]
    have o1' : a_m 32 [a_r 21, a_i n] (K0 L, vT v1 k (w 1558 2) (w 1558 1) (-1) (-1) (-1) (-1), G a, t) = some (.inl (some (a_i (w 1558 2 + 1))), (K0 L, v2, G a2, t)) := o1
    simp (disch := first | assumption | omega) only [k18, g18_0, g18_1, g18_2, g18_3, g18_4, g18_5, g18_6, g18_7, k275, k276, g275_0, g276, kq21, kq22, kq23, kq24, kq25, kq26, kq27, kq28, kq29, kq30, kq31, kq32, kq123, gq21_0, gq21_1, gq21_2, gq21_3, gq22_0, gq22_1, gq22_2, gq22_3, gq22_4, gq22_5, gq22_6, gq31_0, gq123_j, gq32_j, kq124_l, kq125_l, kq126_l, kq127_l, gq124_2, gq124_3, gq124_4, kq33_p, kq34_p, kq35_p, gq33_6, gq33_7, E_X10_cancel, B_X10_cancel_0, B_X10_cancel_4, B_X10_cancel_9, B_X10_cancel_17, B_X10_cancel_21, B_X10_cancel_25, B_X10_cancel_36, B_X10_cancel_54, B_X10_cancel_82, B_X10_cancel_85, B_X10_cancel_93, Option.bind_some, back_v, Option.toList_some, Option.toList_none, List.cons_append, List.nil_append, Nat.reduceAdd, Int.reduceToNat, Int.reduceNeg, upm_eq, upm_r, upm_i, if_pos, if_neg, ite_self, true_or, or_true, true_and, and_true, false_or, or_false, false_and, and_false, wr_id, i10, i01, upr_f, upr_eq, thr58, upm_upr, upr_upr, lc_lt, lc_gt, lc_ge, lc_le, afit1, afit0, afitI, bifit, not_true_eq_false, not_false_eq_true, if_true, if_false, Bool.false_eq_true, reduceCtorEq, k1557, k1558, g1557_2, cn, cb1, cb2, c9, c10, kc, x1, ct, t7, cr, cv, o1']
  · have lo := M_cancel_loop (L := L) (a := a2) (t := t) (k := k) (len := n) (u := w1) k12
    rw [w58] at lo
    simp (disch := first | assumption | omega) only [E_X11_cancel, B_X11_cancel_0, B_X11_cancel_4, B_X11_cancel_12, B_X11_cancel_24, B_X11_cancel_33, B_X11_cancel_45, B_X11_cancel_54, B_X11_cancel_86, B_X11_cancel_70, E_X11_canPublish, B_X11_canPublish_0, B_X11_canPublish_4, B_X11_canPublish_22, E_X11_isLength, B_X11_isLength_0, B_X11_isLength_9, E_X11_hasRoom, B_X11_hasRoom_0, Option.bind_some, back_v, Option.toList_some, Option.toList_none, List.cons_append, List.nil_append, Nat.reduceAdd, Int.reduceToNat, Int.reduceNeg, upm_eq, upm_r, upm_i, if_pos, if_neg, ite_self, true_or, or_true, true_and, and_true, false_or, or_false, false_and, and_false, wr_id, i10, i01, upr_f, upr_eq, thr58, upm_upr, upr_upr, lc_lt, lc_gt, lc_ge, lc_le, afit1, afit0, afitI, bifit, not_true_eq_false, not_false_eq_true, if_true, if_false, Bool.false_eq_true, reduceCtorEq, k1557, k1558, g1557_2, mnA2, M_in, M_isSlot, M_isDay, ib1, ib2, bi_t, rb, rb2, hW, h99', h30', m1']
    rw [lo]
    have n4 : (4 : Int) > 3 := by decide
    rw [B_X11_cancel_56]
    simp (disch := first | assumption | omega) only [B_X11_cancel_0, B_X11_cancel_4, B_X11_cancel_12, B_X11_cancel_24, B_X11_cancel_33, B_X11_cancel_45, B_X11_cancel_54, B_X11_cancel_86, B_X11_cancel_70, Option.bind_some, back_v, Option.toList_some, Option.toList_none, List.cons_append, List.nil_append, Nat.reduceAdd, Int.reduceToNat, Int.reduceNeg, upm_eq, upm_r, upm_i, if_pos, if_neg, ite_self, true_or, or_true, true_and, and_true, false_or, or_false, false_and, and_false, wr_id, i10, i01, upr_f, upr_eq, thr58, upm_upr, upr_upr, lc_lt, lc_gt, lc_ge, lc_le, afit1, afit0, afitI, bifit, not_true_eq_false, not_false_eq_true, if_true, if_false, Bool.false_eq_true, reduceCtorEq, k1557, k1558, g1557_2, n4, pm]
theorem op_repeat {k n : Int} : OP L 132 283 [a_i k, a_i n] eA := by
  intro c v w a t c0 c1 hX
  have be := fun pc len e ls st σ => pub_e (m := 132) (pc := pc) (len := len) (e := e) (ls := ls) (st := st) (σ := σ) (by decide)
  by_cases hv : v 18 8 = 0
  · have hw := XX_ld0 hX hv
    have cn := C_need_bad (L := L) (a := a) (t := t) hv
    have mn := M_notLoaded0 (L := L) (a := a) (t := t) (u := w) hw
    exact OPc_bad (e := 1) (z := 0) (cd := 1) hX (by decide) (by simp (disch := first | assumption | omega) only [k18, g18_0, g18_1, g18_2, g18_3, g18_4, g18_5, g18_6, g18_7, E_X10_repeat, B_X10_repeat_0, B_X10_repeat_4, B_X10_repeat_9, B_X10_repeat_17, B_X10_repeat_21, B_X10_repeat_32, B_X10_repeat_41, Option.bind_some, back_v, Option.toList_some, Option.toList_none, List.cons_append, List.nil_append, Nat.reduceAdd, Int.reduceToNat, Int.reduceNeg, upm_eq, upm_r, upm_i, if_pos, if_neg, ite_self, true_or, or_true, true_and, and_true, false_or, or_false, false_and, and_false, wr_id, i10, i01, upr_f, upr_eq, thr58, upm_upr, upr_upr, lc_lt, lc_gt, lc_ge, lc_le, afit1, afit0, afitI, bifit, not_true_eq_false, not_false_eq_true, if_true, if_false, Bool.false_eq_true, reduceCtorEq, k1557, k1558, g1557_2, cn, be]) (by simp (disch := first | assumption | omega) only [E_X11_repeat, B_X11_repeat_0, B_X11_repeat_4, B_X11_repeat_13, B_X11_repeat_39, B_X11_repeat_20, B_X11_repeat_48, B_X11_repeat_27, B_X11_repeat_55, B_X11_repeat_61, E_X11_isLength, B_X11_isLength_0, B_X11_isLength_9, E_X11_hasRoom, B_X11_hasRoom_0, Option.bind_some, back_v, Option.toList_some, Option.toList_none, List.cons_append, List.nil_append, Nat.reduceAdd, Int.reduceToNat, Int.reduceNeg, upm_eq, upm_r, upm_i, if_pos, if_neg, ite_self, true_or, or_true, true_and, and_true, false_or, or_false, false_and, and_false, wr_id, i10, i01, upr_f, upr_eq, thr58, upm_upr, upr_upr, lc_lt, lc_gt, lc_ge, lc_le, afit1, afit0, afitI, bifit, not_true_eq_false, not_false_eq_true, if_true, if_false, Bool.false_eq_true, reduceCtorEq, k1557, k1558, g1557_2, mn])
  obtain ⟨hw, hS⟩ := XX_ld hX hv
  obtain ⟨⟨n3, n3a, n3b⟩, ⟨n2, n2a, n2b⟩, ⟨n4, n4a, n4b⟩, ⟨n1, n1a, n1b⟩, ⟨n0, n0a, n0b⟩, n5, n6⟩ := RS_n hS
  have hR : isRad 21 := .inl rfl
  have hM := hS.2.1
  have hW : upm w 1557 0 0 1558 = w 1558 := upm_rf (by decide)
  have cn := C_need (L := L) (a := a) (t := t) hv
  have mnA := fun aa : Nat → Nat → Nat => M_notLoaded1 (L := L) (a := aa) (t := t) (u := w) hw
  have mn := mnA a
  by_cases hb1 : k < 1 ∨ w 1558 2 < k
  · have cb1 := C_needCor_bad (L := L) (a := a) (t := t) (v := v) (k := k) (by omega)
    have ib1 : inB k 1 (w 1558 2) = false := inB_f hb1
    have rb1 := M_refuse1 (L := L) (u := w) (a := a) (t := t) (c := 2) (by decide)
    have mi1 := M_isNumber (L := L) (u := upm w 1557 0 0) (a := a) (t := t) (n := k)
    rw [hW, ib1] at mi1
    exact OPc_bad (e := 3) (z := 0) (cd := 2) hX (by decide) (by simp (disch := first | assumption | omega) only [k18, g18_0, g18_1, g18_2, g18_3, g18_4, g18_5, g18_6, g18_7, E_X10_repeat, B_X10_repeat_0, B_X10_repeat_4, B_X10_repeat_9, B_X10_repeat_17, B_X10_repeat_21, B_X10_repeat_32, B_X10_repeat_41, Option.bind_some, back_v, Option.toList_some, Option.toList_none, List.cons_append, List.nil_append, Nat.reduceAdd, Int.reduceToNat, Int.reduceNeg, upm_eq, upm_r, upm_i, if_pos, if_neg, ite_self, true_or, or_true, true_and, and_true, false_or, or_false, false_and, and_false, wr_id, i10, i01, upr_f, upr_eq, thr58, upm_upr, upr_upr, lc_lt, lc_gt, lc_ge, lc_le, afit1, afit0, afitI, bifit, not_true_eq_false, not_false_eq_true, if_true, if_false, Bool.false_eq_true, reduceCtorEq, k1557, k1558, g1557_2, cn, cb1, be]) (by simp (disch := first | assumption | omega) only [E_X11_repeat, B_X11_repeat_0, B_X11_repeat_4, B_X11_repeat_13, B_X11_repeat_39, B_X11_repeat_20, B_X11_repeat_48, B_X11_repeat_27, B_X11_repeat_55, B_X11_repeat_61, E_X11_isLength, B_X11_isLength_0, B_X11_isLength_9, E_X11_hasRoom, B_X11_hasRoom_0, Option.bind_some, back_v, Option.toList_some, Option.toList_none, List.cons_append, List.nil_append, Nat.reduceAdd, Int.reduceToNat, Int.reduceNeg, upm_eq, upm_r, upm_i, if_pos, if_neg, ite_self, true_or, or_true, true_and, and_true, false_or, or_false, false_and, and_false, wr_id, i10, i01, upr_f, upr_eq, thr58, upm_upr, upr_upr, lc_lt, lc_gt, lc_ge, lc_le, afit1, afit0, afitI, bifit, not_true_eq_false, not_false_eq_true, if_true, if_false, Bool.false_eq_true, reduceCtorEq, k1557, k1558, g1557_2, mn, M_in, bi_t, mi1, bi_f, rb1])
  have cb1 := C_needCor (L := L) (a := a) (t := t) (v := v) (k := k) (by omega)
  have ib1 : inB k 1 (w 1558 2) = true := inB_t (by omega) (by omega)
  have mi1 := M_isNumber (L := L) (u := upm w 1557 0 0) (a := a) (t := t) (n := k)
  rw [hW, ib1] at mi1
  have rb1 := M_refuse0 (L := L) (u := w) (a := a) (t := t) (c := 2)
  by_cases hb2 : n < 1 ∨ 20 < n
  · have cb2 := C_needB_bad (L := L) (a := a) (t := t) (v := v) (x := n) (lo := 1) (hi := 20) hb2
    have ib2 : inB n 1 20 = false := inB_f hb2
    have rb2 := M_refuse1 (L := L) (u := w) (a := a) (t := t) (c := 2) (by decide)
    exact OPc_bad (e := 3) (z := 0) (cd := 2) hX (by decide) (by simp (disch := first | assumption | omega) only [k18, g18_0, g18_1, g18_2, g18_3, g18_4, g18_5, g18_6, g18_7, E_X10_repeat, B_X10_repeat_0, B_X10_repeat_4, B_X10_repeat_9, B_X10_repeat_17, B_X10_repeat_21, B_X10_repeat_32, B_X10_repeat_41, Option.bind_some, back_v, Option.toList_some, Option.toList_none, List.cons_append, List.nil_append, Nat.reduceAdd, Int.reduceToNat, Int.reduceNeg, upm_eq, upm_r, upm_i, if_pos, if_neg, ite_self, true_or, or_true, true_and, and_true, false_or, or_false, false_and, and_false, wr_id, i10, i01, upr_f, upr_eq, thr58, upm_upr, upr_upr, lc_lt, lc_gt, lc_ge, lc_le, afit1, afit0, afitI, bifit, not_true_eq_false, not_false_eq_true, if_true, if_false, Bool.false_eq_true, reduceCtorEq, k1557, k1558, g1557_2, cn, cb1, cb2, be]) (by simp (disch := first | assumption | omega) only [E_X11_repeat, B_X11_repeat_0, B_X11_repeat_4, B_X11_repeat_13, B_X11_repeat_39, B_X11_repeat_20, B_X11_repeat_48, B_X11_repeat_27, B_X11_repeat_55, B_X11_repeat_61, E_X11_isLength, B_X11_isLength_0, B_X11_isLength_9, E_X11_hasRoom, B_X11_hasRoom_0, Option.bind_some, back_v, Option.toList_some, Option.toList_none, List.cons_append, List.nil_append, Nat.reduceAdd, Int.reduceToNat, Int.reduceNeg, upm_eq, upm_r, upm_i, if_pos, if_neg, ite_self, true_or, or_true, true_and, and_true, false_or, or_false, false_and, and_false, wr_id, i10, i01, upr_f, upr_eq, thr58, upm_upr, upr_upr, lc_lt, lc_gt, lc_ge, lc_le, afit1, afit0, afitI, bifit, not_true_eq_false, not_false_eq_true, if_true, if_false, Bool.false_eq_true, reduceCtorEq, k1557, k1558, g1557_2, mn, mi1, rb1, M_in, M_isSlot, M_isDay, bi_t, ib2, bi_f, rb2])
  have cb2 := C_needB (L := L) (a := a) (t := t) (v := v) (x := n) (lo := 1) (hi := 20) (by omega)
  have ib2 : inB n 1 20 = true := inB_t (by omega) (by omega)
  have rb2 := M_refuse0 (L := L) (u := w) (a := a) (t := t) (c := 2)
  obtain ⟨C, hC⟩ := hS.1
  have a7 := hM.2.2.2.2.1
  by_cases h30 : w 1558 4 < 30
  case neg =>
    have rb := M_refuse1 (L := L) (u := w) (a := a) (t := t) (c := 2) (by decide)
    have h30' : w 1558 4 ≥ 30 := by omega
    have c10 := C_needRoom_bad (L := L) (a := a) (t := t) (v := v) (by omega)
    exact OPc_bad (e := 3) (z := 0) (cd := 2) hX (by decide) (by simp (disch := first | assumption | omega) only [k18, g18_0, g18_1, g18_2, g18_3, g18_4, g18_5, g18_6, g18_7, E_X10_repeat, B_X10_repeat_0, B_X10_repeat_4, B_X10_repeat_9, B_X10_repeat_17, B_X10_repeat_21, B_X10_repeat_32, B_X10_repeat_41, Option.bind_some, back_v, Option.toList_some, Option.toList_none, List.cons_append, List.nil_append, Nat.reduceAdd, Int.reduceToNat, Int.reduceNeg, upm_eq, upm_r, upm_i, if_pos, if_neg, ite_self, true_or, or_true, true_and, and_true, false_or, or_false, false_and, and_false, wr_id, i10, i01, upr_f, upr_eq, thr58, upm_upr, upr_upr, lc_lt, lc_gt, lc_ge, lc_le, afit1, afit0, afitI, bifit, not_true_eq_false, not_false_eq_true, if_true, if_false, Bool.false_eq_true, reduceCtorEq, k1557, k1558, g1557_2, cn, cb1, cb2, c10, be]) (by simp (disch := first | assumption | omega) only [E_X11_repeat, B_X11_repeat_0, B_X11_repeat_4, B_X11_repeat_13, B_X11_repeat_39, B_X11_repeat_20, B_X11_repeat_48, B_X11_repeat_27, B_X11_repeat_55, B_X11_repeat_61, E_X11_isLength, B_X11_isLength_0, B_X11_isLength_9, E_X11_hasRoom, B_X11_hasRoom_0, Option.bind_some, back_v, Option.toList_some, Option.toList_none, List.cons_append, List.nil_append, Nat.reduceAdd, Int.reduceToNat, Int.reduceNeg, upm_eq, upm_r, upm_i, if_pos, if_neg, ite_self, true_or, or_true, true_and, and_true, false_or, or_false, false_and, and_false, wr_id, i10, i01, upr_f, upr_eq, thr58, upm_upr, upr_upr, lc_lt, lc_gt, lc_ge, lc_le, afit1, afit0, afitI, bifit, not_true_eq_false, not_false_eq_true, if_true, if_false, Bool.false_eq_true, reduceCtorEq, k1557, k1558, g1557_2, mn, M_in, mi1, ib2, bi_t, bi_f, rb, hW, h30'])
  have h30' : ¬ w 1558 4 ≥ 30 := by omega
  have c10 := C_needRoom (L := L) (a := a) (t := t) (v := v) (by omega)
  obtain ⟨v1, w1, hk, kc, m1⟩ := keepOp (L := L) (t := t) hX hv
  have hS1 := hk.2.2.2.2.2.2.1
  have w58 := hk.2.2.2.2.2.2.2
  obtain ⟨⟨C1, hC1⟩, -, hf, hi, h5, h1⟩ := hS1
  obtain ⟨v2, a2, C2, g0, g1, g2, g3⟩ := C_sendCor (L := L) (t := t) (n := k) (len := n) (.inl rfl) hC1 hM h30 (by omega) (by omega) h5 (by omega) (by omega)
  have hcr := hC1.2.2.1 k (by omega) (by omega)
  have hcr2 := g1.2.2.1 k (by omega) (by rw [airs_hd (by decide) (by decide)]; omega)
  have em : mCo (mAirs (w 1558) 0 k n) k 0 = mCo (w 1558) k 0 := by unfold mCo; exact airs_hd (by omega) (by omega)
  have ev : v2 27 k.toNat = mCo (w 1558) k 0 := by rw [← em, hcr2.2.1]; rfl
  have m1' := m1 a2 t
  have es : upr w1 1558 (w 1558) = w1 := by rw [← w58]; exact upr_self
  have pa := M_airs (L := L) (a := a2) (t := t) (u := w1) (s := w 1558) (w := 0) (n := k) (len := n) (.inl rfl) (by omega) (by omega) (by omega) (by omega) (by omega) (fun l l0 l1 => (hM.2.2.2.2.2.2.2 l l0 l1).1)
  rw [es] at pa
  have pn := M_ofNumber (L := L) (a := a2) (t := t) (u := upr w1 1558 (mAirs (w 1558) 0 k n)) (n := k) (w := 0) (by omega) (by decide)
  rw [upr_row2, em] at pn
  have mnA2 := mnA a2
  have rb := M_refuse0 (L := L) (u := w) (a := a2) (t := t) (c := 2)
  have mi := M_isNumber (L := L) (u := upm w 1557 0 0) (a := a2) (t := t) (n := k)
  rw [hW, ib1] at mi
  refine OPc_kp (z := mCo (w 1558) k 0) (v2 := v2) (w2 := upr w1 1558 (mAirs (w 1558) 0 k n)) hX hv hk (fun q hq => g2 q (by omega)) (fun q hq => upr_rf hq) g3 ?_ ?_ ?_
  · rw [upr_row2]
    exact RS_airs hM hf hi h1 h30 (by omega) (by omega) (.inl rfl) (by omega) (fun _ => ⟨by omega, by rw [hcr.2.1]; exact hcr.1⟩) ⟨C2, g1⟩
  · have k111 : k < ((111 : Nat) : Int) := by omega
    simp (disch := first | assumption | omega) only [k18, g18_0, g18_1, g18_2, g18_3, g18_4, g18_5, g18_6, g18_7, k275, k276, g275_0, g276, kq21, kq22, kq23, kq24, kq25, kq26, kq27, kq28, kq29, kq30, kq31, kq32, kq123, gq21_0, gq21_1, gq21_2, gq21_3, gq22_0, gq22_1, gq22_2, gq22_3, gq22_4, gq22_5, gq22_6, gq31_0, gq123_j, gq32_j, kq124_l, kq125_l, kq126_l, kq127_l, gq124_2, gq124_3, gq124_4, kq33_p, kq34_p, kq35_p, gq33_6, gq33_7, E_X10_repeat, B_X10_repeat_0, B_X10_repeat_4, B_X10_repeat_9, B_X10_repeat_17, B_X10_repeat_21, B_X10_repeat_32, B_X10_repeat_41, Option.bind_some, back_v, Option.toList_some, Option.toList_none, List.cons_append, List.nil_append, Nat.reduceAdd, Int.reduceToNat, Int.reduceNeg, upm_eq, upm_r, upm_i, if_pos, if_neg, ite_self, true_or, or_true, true_and, and_true, false_or, or_false, false_and, and_false, wr_id, i10, i01, upr_f, upr_eq, thr58, upm_upr, upr_upr, lc_lt, lc_gt, lc_ge, lc_le, afit1, afit0, afitI, bifit, not_true_eq_false, not_false_eq_true, if_true, if_false, Bool.false_eq_true, reduceCtorEq, k1557, k1558, g1557_2, cn, cb1, cb2, c10, kc, g0, ev]
  · simp (disch := first | assumption | omega) only [E_X11_repeat, B_X11_repeat_0, B_X11_repeat_4, B_X11_repeat_13, B_X11_repeat_39, B_X11_repeat_20, B_X11_repeat_48, B_X11_repeat_27, B_X11_repeat_55, B_X11_repeat_61, E_X11_isLength, B_X11_isLength_0, B_X11_isLength_9, E_X11_hasRoom, B_X11_hasRoom_0, Option.bind_some, back_v, Option.toList_some, Option.toList_none, List.cons_append, List.nil_append, Nat.reduceAdd, Int.reduceToNat, Int.reduceNeg, upm_eq, upm_r, upm_i, if_pos, if_neg, ite_self, true_or, or_true, true_and, and_true, false_or, or_false, false_and, and_false, wr_id, i10, i01, upr_f, upr_eq, thr58, upm_upr, upr_upr, lc_lt, lc_gt, lc_ge, lc_le, afit1, afit0, afitI, bifit, not_true_eq_false, not_false_eq_true, if_true, if_false, Bool.false_eq_true, reduceCtorEq, k1557, k1558, g1557_2, mnA2, M_in, mi, ib2, bi_t, rb, hW, h30', m1', pa, pn]
theorem op_whole {n : Int} : OP L 133 284 [a_i n] eA := by
  intro c v w a t c0 c1 hX
  have be := fun pc len e ls st σ => pub_e (m := 133) (pc := pc) (len := len) (e := e) (ls := ls) (st := st) (σ := σ) (by decide)
  by_cases hv : v 18 8 = 0
  · have hw := XX_ld0 hX hv
    have cn := C_need_bad (L := L) (a := a) (t := t) hv
    have mn := M_notLoaded0 (L := L) (a := a) (t := t) (u := w) hw
    exact OPc_bad (e := 1) (z := 0) (cd := 1) hX (by decide) (by simp (disch := first | assumption | omega) only [k18, g18_0, g18_1, g18_2, g18_3, g18_4, g18_5, g18_6, g18_7, E_X10_whole, B_X10_whole_0, B_X10_whole_4, B_X10_whole_12, B_X10_whole_16, B_X10_whole_27, B_X10_whole_35, Option.bind_some, back_v, Option.toList_some, Option.toList_none, List.cons_append, List.nil_append, Nat.reduceAdd, Int.reduceToNat, Int.reduceNeg, upm_eq, upm_r, upm_i, if_pos, if_neg, ite_self, true_or, or_true, true_and, and_true, false_or, or_false, false_and, and_false, wr_id, i10, i01, upr_f, upr_eq, thr58, upm_upr, upr_upr, lc_lt, lc_gt, lc_ge, lc_le, afit1, afit0, afitI, bifit, not_true_eq_false, not_false_eq_true, if_true, if_false, Bool.false_eq_true, reduceCtorEq, k1557, k1558, g1557_2, cn, be]) (by simp (disch := first | assumption | omega) only [E_X11_whole, B_X11_whole_0, B_X11_whole_4, B_X11_whole_12, B_X11_whole_31, B_X11_whole_19, B_X11_whole_40, B_X11_whole_52, E_X11_isLength, B_X11_isLength_0, B_X11_isLength_9, E_X11_hasRoom, B_X11_hasRoom_0, Option.bind_some, back_v, Option.toList_some, Option.toList_none, List.cons_append, List.nil_append, Nat.reduceAdd, Int.reduceToNat, Int.reduceNeg, upm_eq, upm_r, upm_i, if_pos, if_neg, ite_self, true_or, or_true, true_and, and_true, false_or, or_false, false_and, and_false, wr_id, i10, i01, upr_f, upr_eq, thr58, upm_upr, upr_upr, lc_lt, lc_gt, lc_ge, lc_le, afit1, afit0, afitI, bifit, not_true_eq_false, not_false_eq_true, if_true, if_false, Bool.false_eq_true, reduceCtorEq, k1557, k1558, g1557_2, mn])
  obtain ⟨hw, hS⟩ := XX_ld hX hv
  obtain ⟨⟨n3, n3a, n3b⟩, ⟨n2, n2a, n2b⟩, ⟨n4, n4a, n4b⟩, ⟨n1, n1a, n1b⟩, ⟨n0, n0a, n0b⟩, n5, n6⟩ := RS_n hS
  have hR : isRad 21 := .inl rfl
  have hM := hS.2.1
  have hW : upm w 1557 0 0 1558 = w 1558 := upm_rf (by decide)
  have cn := C_need (L := L) (a := a) (t := t) hv
  have mnA := fun aa : Nat → Nat → Nat => M_notLoaded1 (L := L) (a := aa) (t := t) (u := w) hw
  have mn := mnA a
  by_cases hb1 : n < 1 ∨ 20 < n
  · have cb1 := C_needB_bad (L := L) (a := a) (t := t) (v := v) (x := n) (lo := 1) (hi := 20) hb1
    have ib1 : inB n 1 20 = false := inB_f hb1
    have rb1 := M_refuse1 (L := L) (u := w) (a := a) (t := t) (c := 2) (by decide)
    exact OPc_bad (e := 3) (z := 0) (cd := 2) hX (by decide) (by simp (disch := first | assumption | omega) only [k18, g18_0, g18_1, g18_2, g18_3, g18_4, g18_5, g18_6, g18_7, E_X10_whole, B_X10_whole_0, B_X10_whole_4, B_X10_whole_12, B_X10_whole_16, B_X10_whole_27, B_X10_whole_35, Option.bind_some, back_v, Option.toList_some, Option.toList_none, List.cons_append, List.nil_append, Nat.reduceAdd, Int.reduceToNat, Int.reduceNeg, upm_eq, upm_r, upm_i, if_pos, if_neg, ite_self, true_or, or_true, true_and, and_true, false_or, or_false, false_and, and_false, wr_id, i10, i01, upr_f, upr_eq, thr58, upm_upr, upr_upr, lc_lt, lc_gt, lc_ge, lc_le, afit1, afit0, afitI, bifit, not_true_eq_false, not_false_eq_true, if_true, if_false, Bool.false_eq_true, reduceCtorEq, k1557, k1558, g1557_2, cn, cb1, be]) (by simp (disch := first | assumption | omega) only [E_X11_whole, B_X11_whole_0, B_X11_whole_4, B_X11_whole_12, B_X11_whole_31, B_X11_whole_19, B_X11_whole_40, B_X11_whole_52, E_X11_isLength, B_X11_isLength_0, B_X11_isLength_9, E_X11_hasRoom, B_X11_hasRoom_0, Option.bind_some, back_v, Option.toList_some, Option.toList_none, List.cons_append, List.nil_append, Nat.reduceAdd, Int.reduceToNat, Int.reduceNeg, upm_eq, upm_r, upm_i, if_pos, if_neg, ite_self, true_or, or_true, true_and, and_true, false_or, or_false, false_and, and_false, wr_id, i10, i01, upr_f, upr_eq, thr58, upm_upr, upr_upr, lc_lt, lc_gt, lc_ge, lc_le, afit1, afit0, afitI, bifit, not_true_eq_false, not_false_eq_true, if_true, if_false, Bool.false_eq_true, reduceCtorEq, k1557, k1558, g1557_2, mn, M_in, M_isSlot, M_isDay, bi_t, ib1, bi_f, rb1])
  have cb1 := C_needB (L := L) (a := a) (t := t) (v := v) (x := n) (lo := 1) (hi := 20) (by omega)
  have ib1 : inB n 1 20 = true := inB_t (by omega) (by omega)
  have rb1 := M_refuse0 (L := L) (u := w) (a := a) (t := t) (c := 2)
  obtain ⟨C, hC⟩ := hS.1
  have a7 := hM.2.2.2.2.1
  by_cases h30 : w 1558 4 < 30
  case neg =>
    have rb := M_refuse1 (L := L) (u := w) (a := a) (t := t) (c := 2) (by decide)
    have h30' : w 1558 4 ≥ 30 := by omega
    have c10 := C_needRoom_bad (L := L) (a := a) (t := t) (v := v) (by omega)
    exact OPc_bad (e := 3) (z := 0) (cd := 2) hX (by decide) (by simp (disch := first | assumption | omega) only [k18, g18_0, g18_1, g18_2, g18_3, g18_4, g18_5, g18_6, g18_7, E_X10_whole, B_X10_whole_0, B_X10_whole_4, B_X10_whole_12, B_X10_whole_16, B_X10_whole_27, B_X10_whole_35, Option.bind_some, back_v, Option.toList_some, Option.toList_none, List.cons_append, List.nil_append, Nat.reduceAdd, Int.reduceToNat, Int.reduceNeg, upm_eq, upm_r, upm_i, if_pos, if_neg, ite_self, true_or, or_true, true_and, and_true, false_or, or_false, false_and, and_false, wr_id, i10, i01, upr_f, upr_eq, thr58, upm_upr, upr_upr, lc_lt, lc_gt, lc_ge, lc_le, afit1, afit0, afitI, bifit, not_true_eq_false, not_false_eq_true, if_true, if_false, Bool.false_eq_true, reduceCtorEq, k1557, k1558, g1557_2, cn, cb1, c10, be]) (by simp (disch := first | assumption | omega) only [E_X11_whole, B_X11_whole_0, B_X11_whole_4, B_X11_whole_12, B_X11_whole_31, B_X11_whole_19, B_X11_whole_40, B_X11_whole_52, E_X11_isLength, B_X11_isLength_0, B_X11_isLength_9, E_X11_hasRoom, B_X11_hasRoom_0, Option.bind_some, back_v, Option.toList_some, Option.toList_none, List.cons_append, List.nil_append, Nat.reduceAdd, Int.reduceToNat, Int.reduceNeg, upm_eq, upm_r, upm_i, if_pos, if_neg, ite_self, true_or, or_true, true_and, and_true, false_or, or_false, false_and, and_false, wr_id, i10, i01, upr_f, upr_eq, thr58, upm_upr, upr_upr, lc_lt, lc_gt, lc_ge, lc_le, afit1, afit0, afitI, bifit, not_true_eq_false, not_false_eq_true, if_true, if_false, Bool.false_eq_true, reduceCtorEq, k1557, k1558, g1557_2, mn, M_in, ib1, bi_t, bi_f, rb, hW, h30'])
  have h30' : ¬ w 1558 4 ≥ 30 := by omega
  have c10 := C_needRoom (L := L) (a := a) (t := t) (v := v) (by omega)
  obtain ⟨v1, w1, hk, kc, m1⟩ := keepOp (L := L) (t := t) hX hv
  have hS1 := hk.2.2.2.2.2.2.1
  have w58 := hk.2.2.2.2.2.2.2
  obtain ⟨⟨C1, hC1⟩, -, hf, hi, h5, h1⟩ := hS1
  obtain ⟨v2, a2, C2, g0, g1, g2, g3⟩ := C_sendWhole (L := L) (t := t) (len := n) (.inl rfl) hC1 hM h30 (by omega) (by omega) (by omega)
  have f17 := (rel_facts (R := 21) g1).2.2.2.2.2.1
  rw [airs_hd (by decide) (by decide)] at f17
  have f17' : v2 22 7 = w 1558 2 := f17
  have m1' := m1 a2 t
  have es : upr w1 1558 (w 1558) = w1 := by rw [← w58]; exact upr_self
  have pa := M_airs (L := L) (a := a2) (t := t) (u := w1) (s := w 1558) (w := 1) (n := w 1558 2) (len := n) (.inr rfl) (by omega) (by omega) (by omega) (by omega) (by omega) (fun l l0 l1 => (hM.2.2.2.2.2.2.2 l l0 l1).1)
  rw [es] at pa
  have mnA2 := mnA a2
  have rb := M_refuse0 (L := L) (u := w) (a := a2) (t := t) (c := 2)
  have e2 : mAirs (w 1558) 1 (w 1558 2) n 2 = w 1558 2 := airs_hd (by decide) (by decide)
  refine OPc_kp (z := w 1558 2) (v2 := v2) (w2 := upr w1 1558 (mAirs (w 1558) 1 (w 1558 2) n)) hX hv hk (fun q hq => g2 q (by omega)) (fun q hq => upr_rf hq) g3 ?_ ?_ ?_
  · rw [upr_row2]
    exact RS_airs hM hf hi h1 h30 (by omega) (by omega) (.inr rfl) (by omega) (fun h => absurd h (by decide)) ⟨C2, g1⟩
  · simp (disch := first | assumption | omega) only [k18, g18_0, g18_1, g18_2, g18_3, g18_4, g18_5, g18_6, g18_7, k275, k276, g275_0, g276, kq21, kq22, kq23, kq24, kq25, kq26, kq27, kq28, kq29, kq30, kq31, kq32, kq123, gq21_0, gq21_1, gq21_2, gq21_3, gq22_0, gq22_1, gq22_2, gq22_3, gq22_4, gq22_5, gq22_6, gq31_0, gq123_j, gq32_j, kq124_l, kq125_l, kq126_l, kq127_l, gq124_2, gq124_3, gq124_4, kq33_p, kq34_p, kq35_p, gq33_6, gq33_7, E_X10_whole, B_X10_whole_0, B_X10_whole_4, B_X10_whole_12, B_X10_whole_16, B_X10_whole_27, B_X10_whole_35, Option.bind_some, back_v, Option.toList_some, Option.toList_none, List.cons_append, List.nil_append, Nat.reduceAdd, Int.reduceToNat, Int.reduceNeg, upm_eq, upm_r, upm_i, if_pos, if_neg, ite_self, true_or, or_true, true_and, and_true, false_or, or_false, false_and, and_false, wr_id, i10, i01, upr_f, upr_eq, thr58, upm_upr, upr_upr, lc_lt, lc_gt, lc_ge, lc_le, afit1, afit0, afitI, bifit, not_true_eq_false, not_false_eq_true, if_true, if_false, Bool.false_eq_true, reduceCtorEq, k1557, k1558, g1557_2, cn, cb1, c10, kc, g0, f17']
  · simp (disch := first | assumption | omega) only [E_X11_whole, B_X11_whole_0, B_X11_whole_4, B_X11_whole_12, B_X11_whole_31, B_X11_whole_19, B_X11_whole_40, B_X11_whole_52, E_X11_isLength, B_X11_isLength_0, B_X11_isLength_9, E_X11_hasRoom, B_X11_hasRoom_0, Option.bind_some, back_v, Option.toList_some, Option.toList_none, List.cons_append, List.nil_append, Nat.reduceAdd, Int.reduceToNat, Int.reduceNeg, upm_eq, upm_r, upm_i, if_pos, if_neg, ite_self, true_or, or_true, true_and, and_true, false_or, or_false, false_and, and_false, wr_id, i10, i01, upr_f, upr_eq, thr58, upm_upr, upr_upr, lc_lt, lc_gt, lc_ge, lc_le, afit1, afit0, afitI, bifit, not_true_eq_false, not_false_eq_true, if_true, if_false, Bool.false_eq_true, reduceCtorEq, k1557, k1558, g1557_2, mnA2, M_in, ib1, bi_t, rb, hW, h30', m1', w58, pa, e2, Int.reduceToNat]
theorem C_tick_loop {n : Int} (hc : c ≤ 1000) (hn : n ≤ 60) : ∀ (d : Nat) (x : Int) (v : Nat → Nat → Int) (a : Nat → Nat → Nat) (s : Nat → Int), 0 ≤ x → x + d = n → RS c v a 21 s → s 1 + d ≤ 9999 →
    ∃ v' a', a_X 36 2 [a_r 21, a_i n, a_i x] [] (K0 L, v, G a, t) = some (.inl none, (K0 L, v', G a', t)) ∧ RS c v' a' 21 (mTicks d s) ∧ outR 21 v v' ∧ (∀ Q, Q ≠ 21 → a' Q = a Q) := by
  intro d
  induction d with
  | zero =>
    intro x v a s h0 h hS h1
    refine ⟨v, a, ?_, hS, outR.refl, fun _ _ => rfl⟩
    have hx : x ≥ n := by omega
    rw [B_X4_passTicks_2]; simp (disch := first | assumption | omega) only [kq21, kq22, kq23, kq24, kq25, kq26, kq27, kq28, kq29, kq30, kq31, kq32, kq123, gq21_0, gq21_1, gq21_2, gq21_3, gq22_0, gq22_1, gq22_2, gq22_3, gq22_4, gq22_5, gq22_6, gq31_0, gq123_j, gq32_j, kq124_l, kq125_l, kq126_l, kq127_l, gq124_2, gq124_3, gq124_4, kq33_p, kq34_p, kq35_p, gq33_6, gq33_7, B_X4_passTicks_0, B_X4_passTicks_11, Option.bind_some, back_v, Option.toList_some, Option.toList_none, List.cons_append, List.nil_append, Nat.reduceAdd, Int.reduceToNat, Int.reduceNeg, upm_eq, upm_r, upm_i, if_pos, if_neg, ite_self, true_or, or_true, true_and, and_true, false_or, or_false, false_and, and_false, wr_id, i10, i01, upr_f, upr_eq, thr58, upm_upr, upr_upr, lc_lt, lc_gt, lc_ge, lc_le, afit1, afit0, afitI, bifit, not_true_eq_false, not_false_eq_true, if_true, if_false, Bool.false_eq_true, reduceCtorEq, k1557, k1558, g1557_2, hx]
  | succ d ih =>
    intro x v a s h0 h hS h1
    obtain ⟨⟨C, hC⟩, hM, hf, hi, h5, h6⟩ := hS
    have hA : ∀ b ∈ airL s, b 1 ≤ s 2 := fun b hb => by
      have hA := hC.2.2.2.2.2.2
      have hm : b ∈ C := hA.2.2.1.mem_iff.mpr hb
      obtain ⟨p, hp, e⟩ := List.getElem_of_mem hm
      have hg := hA.2.2.2.2 p hp
      rw [e] at hg
      exact hg.2.2.2.2.2.2.2.2.2.1.2
    obtain ⟨v1, a1, g1, g2, g3, g4⟩ := C_passTick (L := L) (u := v) (a := a) (t := t) (.inl rfl) ⟨C, hC⟩ hM hc (by omega)
    obtain ⟨r1, r2, r3, r4⟩ := RS_tick (v := v) (v' := v1) (a' := a1) (R := 21) hM hf hi h5 hA hc (by omega)
    have k3 := (MI_tick hM hc (by omega)).2.2.1
    obtain ⟨v2, a2, j1, j2, j3, j4⟩ := ih (x + 1) v1 a1 (mTick s) (by omega) (by omega) ⟨g2, r1, r2, r3, r4, by omega⟩ (by omega)
    refine ⟨v2, a2, ?_, j2, g3.trans j3, fun Q hQ => by rw [j4 Q hQ, g4 Q hQ]⟩
    have hx : ¬ x ≥ n := by omega
    have z : wr (x + 1) = x + 1 := wr_id (by omega) (by omega)
    rw [← j1]
    rw [B_X4_passTicks_2]; simp (disch := first | assumption | omega) only [kq21, kq22, kq23, kq24, kq25, kq26, kq27, kq28, kq29, kq30, kq31, kq32, kq123, gq21_0, gq21_1, gq21_2, gq21_3, gq22_0, gq22_1, gq22_2, gq22_3, gq22_4, gq22_5, gq22_6, gq31_0, gq123_j, gq32_j, kq124_l, kq125_l, kq126_l, kq127_l, gq124_2, gq124_3, gq124_4, kq33_p, kq34_p, kq35_p, gq33_6, gq33_7, B_X4_passTicks_0, B_X4_passTicks_11, Option.bind_some, back_v, Option.toList_some, Option.toList_none, List.cons_append, List.nil_append, Nat.reduceAdd, Int.reduceToNat, Int.reduceNeg, upm_eq, upm_r, upm_i, if_pos, if_neg, ite_self, true_or, or_true, true_and, and_true, false_or, or_false, false_and, and_false, wr_id, i10, i01, upr_f, upr_eq, thr58, upm_upr, upr_upr, lc_lt, lc_gt, lc_ge, lc_le, afit1, afit0, afitI, bifit, not_true_eq_false, not_false_eq_true, if_true, if_false, Bool.false_eq_true, reduceCtorEq, k1557, k1558, g1557_2, hx, g1, z]
theorem op_tick {n : Int} : OP L 134 285 [a_i n] eA := by
  intro c v w a t c0 c1 hX
  have be := fun pc len e ls st σ => pub_e (m := 134) (pc := pc) (len := len) (e := e) (ls := ls) (st := st) (σ := σ) (by decide)
  by_cases hv : v 18 8 = 0
  · have hw := XX_ld0 hX hv
    have cn := C_need_bad (L := L) (a := a) (t := t) hv
    have mn := M_notLoaded0 (L := L) (a := a) (t := t) (u := w) hw
    exact OPc_bad (e := 1) (z := 0) (cd := 1) hX (by decide) (by simp (disch := first | assumption | omega) only [k18, g18_0, g18_1, g18_2, g18_3, g18_4, g18_5, g18_6, g18_7, E_X10_tick, B_X10_tick_0, B_X10_tick_4, B_X10_tick_12, B_X10_tick_29, B_X10_tick_40, B_X10_tick_48, B_X10_tick_55, Option.bind_some, back_v, Option.toList_some, Option.toList_none, List.cons_append, List.nil_append, Nat.reduceAdd, Int.reduceToNat, Int.reduceNeg, upm_eq, upm_r, upm_i, if_pos, if_neg, ite_self, true_or, or_true, true_and, and_true, false_or, or_false, false_and, and_false, wr_id, i10, i01, upr_f, upr_eq, thr58, upm_upr, upr_upr, lc_lt, lc_gt, lc_ge, lc_le, afit1, afit0, afitI, bifit, not_true_eq_false, not_false_eq_true, if_true, if_false, Bool.false_eq_true, reduceCtorEq, k1557, k1558, g1557_2, cn, be]) (by simp (disch := first | assumption | omega) only [E_X11_tick, B_X11_tick_0, B_X11_tick_4, B_X11_tick_17, B_X11_tick_43, B_X11_tick_52, B_X11_tick_57, B_X11_tick_61, Option.bind_some, back_v, Option.toList_some, Option.toList_none, List.cons_append, List.nil_append, Nat.reduceAdd, Int.reduceToNat, Int.reduceNeg, upm_eq, upm_r, upm_i, if_pos, if_neg, ite_self, true_or, or_true, true_and, and_true, false_or, or_false, false_and, and_false, wr_id, i10, i01, upr_f, upr_eq, thr58, upm_upr, upr_upr, lc_lt, lc_gt, lc_ge, lc_le, afit1, afit0, afitI, bifit, not_true_eq_false, not_false_eq_true, if_true, if_false, Bool.false_eq_true, reduceCtorEq, k1557, k1558, g1557_2, mn])
  obtain ⟨hw, hS⟩ := XX_ld hX hv
  obtain ⟨⟨n3, n3a, n3b⟩, ⟨n2, n2a, n2b⟩, ⟨n4, n4a, n4b⟩, ⟨n1, n1a, n1b⟩, ⟨n0, n0a, n0b⟩, n5, n6⟩ := RS_n hS
  have hR : isRad 21 := .inl rfl
  have hM := hS.2.1
  have hW : upm w 1557 0 0 1558 = w 1558 := upm_rf (by decide)
  have cn := C_need (L := L) (a := a) (t := t) hv
  have mnA := fun aa : Nat → Nat → Nat => M_notLoaded1 (L := L) (a := aa) (t := t) (u := w) hw
  have mn := mnA a
  by_cases hb1 : n < 1 ∨ 60 < n
  · have cb1 := C_needB_bad (L := L) (a := a) (t := t) (v := v) (x := n) (lo := 1) (hi := 60) hb1
    have ib1 : inB n 1 60 = false := inB_f hb1
    have rb1 := M_refuse1 (L := L) (u := w) (a := a) (t := t) (c := 2) (by decide)
    exact OPc_bad (e := 3) (z := 0) (cd := 2) hX (by decide) (by simp (disch := first | assumption | omega) only [k18, g18_0, g18_1, g18_2, g18_3, g18_4, g18_5, g18_6, g18_7, E_X10_tick, B_X10_tick_0, B_X10_tick_4, B_X10_tick_12, B_X10_tick_29, B_X10_tick_40, B_X10_tick_48, B_X10_tick_55, Option.bind_some, back_v, Option.toList_some, Option.toList_none, List.cons_append, List.nil_append, Nat.reduceAdd, Int.reduceToNat, Int.reduceNeg, upm_eq, upm_r, upm_i, if_pos, if_neg, ite_self, true_or, or_true, true_and, and_true, false_or, or_false, false_and, and_false, wr_id, i10, i01, upr_f, upr_eq, thr58, upm_upr, upr_upr, lc_lt, lc_gt, lc_ge, lc_le, afit1, afit0, afitI, bifit, not_true_eq_false, not_false_eq_true, if_true, if_false, Bool.false_eq_true, reduceCtorEq, k1557, k1558, g1557_2, cn, cb1, be]) (by simp (disch := first | assumption | omega) only [E_X11_tick, B_X11_tick_0, B_X11_tick_4, B_X11_tick_17, B_X11_tick_43, B_X11_tick_52, B_X11_tick_57, B_X11_tick_61, Option.bind_some, back_v, Option.toList_some, Option.toList_none, List.cons_append, List.nil_append, Nat.reduceAdd, Int.reduceToNat, Int.reduceNeg, upm_eq, upm_r, upm_i, if_pos, if_neg, ite_self, true_or, or_true, true_and, and_true, false_or, or_false, false_and, and_false, wr_id, i10, i01, upr_f, upr_eq, thr58, upm_upr, upr_upr, lc_lt, lc_gt, lc_ge, lc_le, afit1, afit0, afitI, bifit, not_true_eq_false, not_false_eq_true, if_true, if_false, Bool.false_eq_true, reduceCtorEq, k1557, k1558, g1557_2, mn, M_in, M_isSlot, M_isDay, bi_t, ib1, bi_f, rb1])
  have cb1 := C_needB (L := L) (a := a) (t := t) (v := v) (x := n) (lo := 1) (hi := 60) (by omega)
  have ib1 : inB n 1 60 = true := inB_t (by omega) (by omega)
  have rb1 := M_refuse0 (L := L) (u := w) (a := a) (t := t) (c := 2)
  obtain ⟨C, hC⟩ := hS.1
  have z1 : wr (w 1558 1 + n) = w 1558 1 + n := wr_id (by omega) (by omega)
  by_cases h9 : w 1558 1 + n ≤ 9999
  case neg =>
    have rb := M_refuse1 (L := L) (u := w) (a := a) (t := t) (c := 2) (by decide)
    have cb := C_needB_bad (L := L) (a := a) (t := t) (v := v) (x := w 1558 1 + n) (lo := 0) (hi := 9999) (by omega)
    exact OPc_bad (e := 3) (z := 0) (cd := 2) hX (by decide) (by simp (disch := first | assumption | omega) only [k18, g18_0, g18_1, g18_2, g18_3, g18_4, g18_5, g18_6, g18_7, kq21, kq22, kq23, kq24, kq25, kq26, kq27, kq28, kq29, kq30, kq31, kq32, kq123, gq21_0, gq21_1, gq21_2, gq21_3, gq22_0, gq22_1, gq22_2, gq22_3, gq22_4, gq22_5, gq22_6, gq31_0, gq123_j, gq32_j, kq124_l, kq125_l, kq126_l, kq127_l, gq124_2, gq124_3, gq124_4, kq33_p, kq34_p, kq35_p, gq33_6, gq33_7, E_X10_tick, B_X10_tick_0, B_X10_tick_4, B_X10_tick_12, B_X10_tick_29, B_X10_tick_40, B_X10_tick_48, B_X10_tick_55, Option.bind_some, back_v, Option.toList_some, Option.toList_none, List.cons_append, List.nil_append, Nat.reduceAdd, Int.reduceToNat, Int.reduceNeg, upm_eq, upm_r, upm_i, if_pos, if_neg, ite_self, true_or, or_true, true_and, and_true, false_or, or_false, false_and, and_false, wr_id, i10, i01, upr_f, upr_eq, thr58, upm_upr, upr_upr, lc_lt, lc_gt, lc_ge, lc_le, afit1, afit0, afitI, bifit, not_true_eq_false, not_false_eq_true, if_true, if_false, Bool.false_eq_true, reduceCtorEq, k1557, k1558, g1557_2, cn, cb1, n1, z1, cb, be]) (by simp (disch := first | assumption | omega) only [E_X11_tick, B_X11_tick_0, B_X11_tick_4, B_X11_tick_17, B_X11_tick_43, B_X11_tick_52, B_X11_tick_57, B_X11_tick_61, Option.bind_some, back_v, Option.toList_some, Option.toList_none, List.cons_append, List.nil_append, Nat.reduceAdd, Int.reduceToNat, Int.reduceNeg, upm_eq, upm_r, upm_i, if_pos, if_neg, ite_self, true_or, or_true, true_and, and_true, false_or, or_false, false_and, and_false, wr_id, i10, i01, upr_f, upr_eq, thr58, upm_upr, upr_upr, lc_lt, lc_gt, lc_ge, lc_le, afit1, afit0, afitI, bifit, not_true_eq_false, not_false_eq_true, if_true, if_false, Bool.false_eq_true, reduceCtorEq, k1557, k1558, g1557_2, mn, M_in, ib1, bi_t, bi_f, rb, hW, z1, h9, Int.reduceToNat])
  have cb := C_needB (L := L) (a := a) (t := t) (v := v) (x := w 1558 1 + n) (lo := 0) (hi := 9999) (by omega)
  obtain ⟨v1, w1, hk, kc, m1⟩ := keepOp (L := L) (t := t) hX hv
  have hS1 := hk.2.2.2.2.2.2.1
  have w58 := hk.2.2.2.2.2.2.2
  obtain ⟨v2, a2, j1, j2, j3, j4⟩ := C_tick_loop (L := L) (t := t) (c := c) (n := n) (by omega) (by omega) n.toNat 0 v1 a (w 1558) (by decide) (by omega) hS1 (by omega)
  have j0 : a_m 36 [a_r 21, a_i n] (K0 L, v1, G a, t) = some (.inl none, (K0 L, v2, G a2, t)) := by
    rw [← j1]
    simp (disch := first | assumption | omega) only [E_X4_passTicks, B_X4_passTicks_0, B_X4_passTicks_11, Option.bind_some, back_v, Option.toList_some, Option.toList_none, List.cons_append, List.nil_append, Nat.reduceAdd, Int.reduceToNat, Int.reduceNeg, upm_eq, upm_r, upm_i, if_pos, if_neg, ite_self, true_or, or_true, true_and, and_true, false_or, or_false, false_and, and_false, wr_id, i10, i01, upr_f, upr_eq, thr58, upm_upr, upr_upr, lc_lt, lc_gt, lc_ge, lc_le, afit1, afit0, afitI, bifit, not_true_eq_false, not_false_eq_true, if_true, if_false, Bool.false_eq_true, reduceCtorEq, k1557, k1558, g1557_2]
  obtain ⟨C2, hC2⟩ := j2.1
  have cs := C_sameListeners (L := L) (t := t) (R := 21) (.inl rfl) hC2 j2.2.1
  have m1' := m1 a2 t
  have es : upr w1 1558 (w 1558) = w1 := by rw [← w58]; exact upr_self
  have pt := M_ticksAll (L := L) (a := a2) (t := t) (u := w1) (c := c) (n := n) (s := w 1558) (by omega) (by omega) hM (by omega)
  rw [es] at pt
  have j3m := j2.2.1.2.2.2.1
  have ps := M_sameOnes (L := L) (a := a2) (t := t) (u := upr w1 1558 (mTicks n.toNat (w 1558))) (by rw [upr_row2]; omega)
  rw [upr_row2] at ps
  have mnA2 := mnA a2
  have rb := M_refuse0 (L := L) (u := w) (a := a2) (t := t) (c := 2)
  refine OPc_kp (z := mSame (mTicks n.toNat (w 1558))) (v2 := v2) (w2 := upr w1 1558 (mTicks n.toNat (w 1558))) hX hv hk (fun q hq => j3 q (by omega)) (fun q hq => upr_rf hq) j4 (by rw [upr_row2]; exact RS_le j2 (by omega)) ?_ ?_
  · simp (disch := first | assumption | omega) only [k18, g18_0, g18_1, g18_2, g18_3, g18_4, g18_5, g18_6, g18_7, k275, k276, g275_0, g276, kq21, kq22, kq23, kq24, kq25, kq26, kq27, kq28, kq29, kq30, kq31, kq32, kq123, gq21_0, gq21_1, gq21_2, gq21_3, gq22_0, gq22_1, gq22_2, gq22_3, gq22_4, gq22_5, gq22_6, gq31_0, gq123_j, gq32_j, kq124_l, kq125_l, kq126_l, kq127_l, gq124_2, gq124_3, gq124_4, kq33_p, kq34_p, kq35_p, gq33_6, gq33_7, E_X10_tick, B_X10_tick_0, B_X10_tick_4, B_X10_tick_12, B_X10_tick_29, B_X10_tick_40, B_X10_tick_48, B_X10_tick_55, Option.bind_some, back_v, Option.toList_some, Option.toList_none, List.cons_append, List.nil_append, Nat.reduceAdd, Int.reduceToNat, Int.reduceNeg, upm_eq, upm_r, upm_i, if_pos, if_neg, ite_self, true_or, or_true, true_and, and_true, false_or, or_false, false_and, and_false, wr_id, i10, i01, upr_f, upr_eq, thr58, upm_upr, upr_upr, lc_lt, lc_gt, lc_ge, lc_le, afit1, afit0, afitI, bifit, not_true_eq_false, not_false_eq_true, if_true, if_false, Bool.false_eq_true, reduceCtorEq, k1557, k1558, g1557_2, cn, cb1, n1, z1, cb, kc, j0, cs]
  · simp (disch := first | assumption | omega) only [E_X11_tick, B_X11_tick_0, B_X11_tick_4, B_X11_tick_17, B_X11_tick_43, B_X11_tick_52, B_X11_tick_57, B_X11_tick_61, Option.bind_some, back_v, Option.toList_some, Option.toList_none, List.cons_append, List.nil_append, Nat.reduceAdd, Int.reduceToNat, Int.reduceNeg, upm_eq, upm_r, upm_i, if_pos, if_neg, ite_self, true_or, or_true, true_and, and_true, false_or, or_false, false_and, and_false, wr_id, i10, i01, upr_f, upr_eq, thr58, upm_upr, upr_upr, lc_lt, lc_gt, lc_ge, lc_le, afit1, afit0, afitI, bifit, not_true_eq_false, not_false_eq_true, if_true, if_false, Bool.false_eq_true, reduceCtorEq, k1557, k1558, g1557_2, mnA2, M_in, ib1, bi_t, rb, hW, z1, h9, m1', pt, ps, Int.reduceToNat]
end PUO
