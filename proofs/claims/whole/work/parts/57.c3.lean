/-! ===== the class: what ended on the air ===== -/
theorem maxW_lt {f : Int → Int} {T : Int} : ∀ (d : Nat) (x acc : Int), T < maxW d x acc f ↔ T < acc ∨ ∃ i, x ≤ i ∧ i < x + d ∧ T < f i := by
  intro d
  induction d with
  | zero =>
    intro x acc
    simp only [maxW]
    constructor
    · exact .inl
    · rintro (h | ⟨i, h1, h2, -⟩)
      · exact h
      · omega
  | succ d ih =>
    intro x acc
    simp only [maxW]
    rw [ih]
    constructor
    · rintro (h | ⟨i, h1, h2, h3⟩)
      · by_cases h4 : T < acc
        · exact .inl h4
        · exact .inr ⟨x, by omega, by omega, by omega⟩
      · exact .inr ⟨i, by omega, by omega, h3⟩
    · rintro (h | ⟨i, h1, h2, h3⟩)
      · exact .inl (by omega)
      · by_cases hx : i = x
        · subst hx; exact .inl (by omega)
        · exact .inr ⟨i, by omega, by omega, h3⟩
theorem bitW_none {p : Int → Bool} : ∀ (d : Nat) (x : Int), (∀ i, x ≤ i → i < x + d → p i = false) → bitW d x 0 p = 0 := by
  intro d
  induction d with
  | zero => intro x _; rfl
  | succ d ih =>
    intro x h
    rw [bitW, h x (Int.le_refl _) (by omega), bi_f, zshl0, zor0 (by decide)]
    exact ih _ fun i h1 h2 => h i (by omega) (by omega)
theorem bitW_ne {p : Int → Bool} {d : Nat} (hd : d ≤ 32) : bitW d 0 0 p ≠ 0 ↔ ∃ i, 0 ≤ i ∧ i < (d : Int) ∧ p i = true := by
  constructor
  · intro h
    refine Classical.byContradiction fun hn => h (bitW_none d 0 fun i h1 h2 => ?_)
    cases hp : p i with
    | false => rfl
    | true => exact absurd ⟨i, h1, by omega, hp⟩ hn
  · rintro ⟨i, h1, h2, h3⟩ h
    have := tb_bitW (p := p) d 0 0 i (Int.le_refl _) (by omega) (by omega)
    rw [h, tb_zero (by omega), h3] at this
    simp at this
    omega
theorem still_last {n : Nat} {T m : Int} {c : Nat → Int} (hn : n ≤ 6) (hm : m ≤ T) : decide (bStill n T c ≠ 0) = decide (T < maxW n 0 m (fun l => c (5 + l).toNat)) := by
  rw [decide_eq_decide]
  unfold bStill
  rw [bitW_ne (by omega), maxW_lt]
  constructor
  · rintro ⟨i, h1, h2, h3⟩
    exact .inr ⟨i, h1, by omega, of_decide_eq_true h3⟩
  · rintro (h | ⟨i, h1, h2, h3⟩)
    · omega
    · exact ⟨i, h1, by omega, decide_eq_true h3⟩
section C3
variable {L : Nat} {u : Nat → Nat → Int} {a : Nat → Nat → Nat} {t : Nat × Nat × Nat} {R : Nat}
theorem C_removeEnded_loop {C : List (Nat → Int)} {s : Nat → Int} {b : Nat → Nat} (hR : isRad R) (h3 : 0 ≤ s 3 ∧ s 3 ≤ 6) (hlen : C.length ≤ 30) (hsz : u (R + 10) 1 = C.length) (hsg : ∀ (p : Nat) (hp : p < C.length), sgR (vw u R) s (12 + 3 * b p) C[p]) : ∀ (d i : Nat) (a : Nat → Nat → Nat) (v : AV), i + d = C.length → (∀ p, p < 30 → a R p < 30) → (∀ p q, p < 30 → q < 30 → a R p = a R q → p = q) → (∀ j, i ≤ j → j < 30 → a R j = b j) →
    (∀ (p : Nat) (hp : p < ((C.take i).filter (fun c => decide (bStill (s 3).toNat (s 1) c ≠ 0))).length), sgR (vw u R) s (12 + 3 * a R p) ((C.take i).filter (fun c => decide (bStill (s 3).toNat (s 1) c ≠ 0)))[p]) →
    ∃ a', a_X 5 4 [a_r (R + 10), a_i (s 1), a_i (((C.take i).filter (fun c => decide (bStill (s 3).toNat (s 1) c ≠ 0))).length : Int), a_i (i : Int), v] [] (K0 L, u, G a, t) = some (.inl none, (K0 L, upm u (R + 10) 1 ((C.filter (fun c => decide (bStill (s 3).toNat (s 1) c ≠ 0))).length : Int), G a', t)) ∧ (∀ Q, Q ≠ R → a' Q = a Q) ∧ (∀ p, p < 30 → a' R p < 30) ∧ (∀ p q, p < 30 → q < 30 → a' R p = a' R q → p = q) ∧
      ∀ (p : Nat) (hp : p < (C.filter (fun c => decide (bStill (s 3).toNat (s 1) c ≠ 0))).length), sgR (vw u R) s (12 + 3 * a' R p) (C.filter (fun c => decide (bStill (s 3).toNat (s 1) c ≠ 0)))[p] := by
  intro d
  induction d with
  | zero =>
    intro i a v hi i1 i2 i3 i5
    have ht : C.take i = C := List.take_of_length_le (by omega)
    rw [ht] at i5 ⊢
    refine ⟨a, ?_, fun _ _ => rfl, i1, i2, i5⟩
    rw [B_X0_removeEnded_4]
    simp (disch := first | assumption | omega) only [kR0, kR9, kR10, kR11, kR102, gR0_0, gR0_1, gR0_2, gR0_3, gR10_0, gR11, gR102, B_X0_removeEnded_0, Option.bind_some, back_v, Option.toList_some, Option.toList_none, List.cons_append, List.nil_append, Nat.reduceAdd, Int.reduceToNat, Int.reduceNeg, upm_eq, upm_r, upm_i, if_pos, if_neg, ite_self, true_or, or_true, true_and, and_true, false_or, or_false, false_and, and_false, wr_id, i10, i01, upr_f, upr_eq, thr58, upm_upr, upr_upr, lc_lt, lc_gt, lc_ge, lc_le, afit1, afit0, afitI, bifit, not_true_eq_false, not_false_eq_true, if_true, if_false, Bool.false_eq_true, reduceCtorEq, k1557, k1558, g1557_2, hsz]
  | succ d ih =>
    intro i a v hi i1 i2 i3 i5
    have hiC : i < C.length := by omega
    have hs := hsg i hiC
    have htk : C.take (i + 1) = C.take i ++ [C[i]] := List.take_succ_eq_append_getElem hiC
    have hkl : ((C.take i).filter (fun c => decide (bStill (s 3).toNat (s 1) c ≠ 0))).length ≤ i := by
      have := List.length_filter_le (fun c => decide (bStill (s 3).toNat (s 1) c ≠ 0)) (C.take i)
      rw [List.length_take] at this; omega
    have hbi := i3 i (Nat.le_refl _) (by omega)
    have hb30 := i1 i (by omega)
    have hlast : u (R + 12 + 3 * a R i) 5 = maxW (s 3).toNat 0 (C[i] 2) (fun l => C[i] (5 + l).toNat) := by
      rw [vw_s0 u hb30, hbi]; exact hs.2.2.2.2.2.1
    have hst := still_last (n := (s 3).toNat) (T := s 1) (m := C[i] 2) (c := C[i]) (by omega) hs.2.2.2.2.2.2.2.1.2
    rw [← hlast] at hst
    generalize hK : (fun c : Nat → Int => decide (bStill (s 3).toNat (s 1) c ≠ 0)) = K at *
    have hKc : K C[i] = decide (s 1 < u (R + 12 + 3 * a R i) 5) := by rw [← hK]; exact hst
    have hidx : ((i + 1 : Nat) : Int) = (i : Int) + 1 := by omega
    by_cases hc : s 1 < u (R + 12 + 3 * a R i) 5
    · rw [decide_eq_true hc] at hKc
      have hf : (C.take (i + 1)).filter K = (C.take i).filter K ++ [C[i]] := by rw [htk, List.filter_append]; simp [hKc]
      obtain ⟨k, hkk⟩ : ∃ k, ((C.take i).filter K).length = k := ⟨_, rfl⟩
      rw [hkk] at hkl ⊢
      have hk30 : k < 30 := by omega
      have hakk := i1 k hk30
      have ha' : ∀ j, upm (upm a R i (a R k)) R k (a R i) R j = if j = k then a R i else if j = i then a R k else a R j := by
        intro j; unfold upm; simp
      obtain ⟨a', g1, g2, g3, g4, g5⟩ := ih (i + 1) (upm (upm a R i (a R k)) R k (a R i)) (a_r (R + 12 + 3 * a R i)) (by omega) (fun p hp => by
          rw [ha']; split
          · exact hb30
          · split
            · exact hakk
            · exact i1 p hp) (fun p q hp hq he => by
          rw [ha', ha'] at he
          have e1 : ∀ x y, x < 30 → y < 30 → a R x = a R y → x = y := i2
          by_cases p1 : p = k
          · subst p1
            rw [if_pos rfl] at he
            by_cases q1 : q = p
            · exact q1.symm
            · rw [if_neg q1] at he
              by_cases q2 : q = i
              · rw [if_pos q2] at he; have := e1 _ _ (by omega) (by omega) he; omega
              · rw [if_neg q2] at he; have := e1 _ _ (by omega) (by omega) he; omega
          · rw [if_neg p1] at he
            by_cases p2 : p = i
            · rw [if_pos p2] at he
              by_cases q1 : q = k
              · rw [if_pos q1] at he; have := e1 _ _ (by omega) (by omega) he; omega
              · rw [if_neg q1] at he
                by_cases q2 : q = i
                · omega
                · rw [if_neg q2] at he; have := e1 _ _ (by omega) (by omega) he; omega
            · rw [if_neg p2] at he
              by_cases q1 : q = k
              · rw [if_pos q1] at he; have := e1 _ _ (by omega) (by omega) he; omega
              · rw [if_neg q1] at he
                by_cases q2 : q = i
                · rw [if_pos q2] at he; have := e1 _ _ (by omega) (by omega) he; omega
                · rw [if_neg q2] at he; exact e1 _ _ hp hq he) (fun j hj hj2 => by
          rw [ha', if_neg (by omega), if_neg (by omega)]; exact i3 j (by omega) hj2) (fun p hp => by
          simp only [hf] at hp ⊢
          rw [List.length_append, List.length_singleton, hkk] at hp
          rw [ha']
          by_cases hpk : p = k
          · rw [if_pos hpk, List.getElem_append_right (by omega)]
            simp only [List.getElem_singleton]
            rw [hbi]; exact hs
          · rw [if_neg hpk, if_neg (by omega), List.getElem_append_left (by omega)]
            exact i5 p (by rw [hkk]; omega))
      refine ⟨a', ?_, fun Q hQ => ?_, g3, g4, g5⟩
      · rw [← g1, hf, List.length_append, List.length_singleton, hkk, hidx]
        rw [B_X0_removeEnded_4]
        simp (disch := first | assumption | omega) only [kR0, kR9, kR10, kR11, kR102, gR0_0, gR0_1, gR0_2, gR0_3, gR10_0, gR11, gR102, kRs0, kRs1, kRs2, gRs_6, gRs_7, B_X0_removeEnded_0, Option.bind_some, back_v, Option.toList_some, Option.toList_none, List.cons_append, List.nil_append, Nat.reduceAdd, Int.reduceToNat, Int.reduceNeg, upm_eq, upm_r, upm_i, if_pos, if_neg, ite_self, true_or, or_true, true_and, and_true, false_or, or_false, false_and, and_false, wr_id, i10, i01, upr_f, upr_eq, thr58, upm_upr, upr_upr, lc_lt, lc_gt, lc_ge, lc_le, afit1, afit0, afitI, bifit, not_true_eq_false, not_false_eq_true, if_true, if_false, Bool.false_eq_true, reduceCtorEq, k1557, k1558, g1557_2, hsz, Int.toNat_natCast, G_upm]
        rw [show ((k + 1 : Nat) : Int) = (k : Int) + 1 from by omega]
      · rw [g2 Q hQ, upm_rf hQ, upm_rf hQ]
    · rw [decide_eq_false hc] at hKc
      have hf : (C.take (i + 1)).filter K = (C.take i).filter K := by rw [htk, List.filter_append]; simp [hKc]
      obtain ⟨a', g1, g2, g3, g4, g5⟩ := ih (i + 1) a (a_r (R + 12 + 3 * a R i)) (by omega) i1 i2 (fun j hj hj2 => i3 j (by omega) hj2) (fun p hp => by
          simp only [hf] at hp ⊢
          exact i5 p hp)
      refine ⟨a', ?_, g2, g3, g4, g5⟩
      rw [← g1, hf, hidx]
      rw [B_X0_removeEnded_4]
      simp (disch := first | assumption | omega) only [kR0, kR9, kR10, kR11, kR102, gR0_0, gR0_1, gR0_2, gR0_3, gR10_0, gR11, gR102, kRs0, kRs1, kRs2, gRs_6, gRs_7, B_X0_removeEnded_0, Option.bind_some, back_v, Option.toList_some, Option.toList_none, List.cons_append, List.nil_append, Nat.reduceAdd, Int.reduceToNat, Int.reduceNeg, upm_eq, upm_r, upm_i, if_pos, if_neg, ite_self, true_or, or_true, true_and, and_true, false_or, or_false, false_and, and_false, wr_id, i10, i01, upr_f, upr_eq, thr58, upm_upr, upr_upr, lc_lt, lc_gt, lc_ge, lc_le, afit1, afit0, afitI, bifit, not_true_eq_false, not_false_eq_true, if_true, if_false, Bool.false_eq_true, reduceCtorEq, k1557, k1558, g1557_2, hsz, Int.toNat_natCast]
end C3
