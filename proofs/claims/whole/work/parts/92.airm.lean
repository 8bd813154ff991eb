/-! ===== what is on the air, by the first time at which it is due ===== -/
theorem sumW_cnt {α : Type} {p : α → Bool} {f : Int → Int} : ∀ (L : List α) (x acc : Int), 0 ≤ acc → acc + L.length ≤ 1000000000 → (∀ (j : Nat) (hj : j < L.length), f (x + j) = bi (p L[j])) → sumW L.length x acc f = acc + L.countP p := by
  intro L
  induction L with
  | nil => intro x acc _ _ _; simp [sumW]
  | cons y L ih =>
    intro x acc a0 a1 h
    rw [List.length_cons] at a1 ⊢
    have h0 := h 0 (by simp)
    rw [List.getElem_cons_zero, show x + ((0 : Nat) : Int) = x from by omega] at h0
    have hb := bi_lo (b := p y)
    have hb2 := bi_hi (b := p y)
    rw [sumW, h0, wr_id (by omega) (by omega), ih (x + 1) _ (by omega) (by omega) (fun j hj => by
      have := h (j + 1) (by simpa using hj)
      rw [List.getElem_cons_succ] at this
      rw [← this]; congr 1; omega)]
    cases hp : p y with
    | true => rw [List.countP_cons_of_pos (by simp [hp]), bi_t]; omega
    | false => rw [List.countP_cons_of_neg (by simp [hp]), bi_f]; omega
/-- in a rising list the place is the number of smaller ones -/
theorem rank_at {α : Type} {K : α → Int} : ∀ (D : List α), D.Pairwise (fun b c => K b < K c) → ∀ (p : Nat) (hp : p < D.length), D.countP (fun b => decide (K b < K D[p])) = p := by
  intro D
  induction D with
  | nil => intro _ p hp; simp at hp
  | cons d D ih =>
    intro h p hp
    obtain ⟨h1, h2⟩ := List.pairwise_cons.mp h
    cases p with
    | zero =>
      rw [List.getElem_cons_zero, List.countP_cons_of_neg (by simp)]
      exact List.countP_eq_zero.mpr fun b hb => by have := h1 b hb; simp; omega
    | succ p =>
      rw [List.getElem_cons_succ, List.countP_cons_of_pos (by simpa using h1 _ (List.getElem_mem _)), ih h2 p (by simpa using hp)]
theorem minW_congr {f g : Int → Int} : ∀ (d : Nat) (x acc : Int), (∀ i, x ≤ i → i < x + d → f i = g i) → minW d x acc f = minW d x acc g := by
  intro d
  induction d with
  | zero => intro x acc _; rfl
  | succ d ih =>
    intro x acc h
    rw [minW, minW, h x (Int.le_refl _) (by omega), ih _ _ fun i h2 h3 => h i (by omega) (by omega)]
theorem minW_rng {f : Int → Int} {lo : Int} : ∀ (d : Nat) (x acc : Int), lo ≤ acc → (∀ i, x ≤ i → i < x + d → lo ≤ f i) → lo ≤ minW d x acc f ∧ minW d x acc f ≤ acc := by
  intro d
  induction d with
  | zero => intro x acc h _; exact ⟨h, Int.le_refl _⟩
  | succ d ih =>
    intro x acc h hf
    have h1 := hf x (Int.le_refl _) (by omega)
    have h2 := ih (x + 1) (min acc (f x)) (by omega) (fun i h2 h3 => hf i (by omega) (by omega))
    rw [minW]
    exact ⟨h2.1, by omega⟩
def bFd (n : Nat) (b : Nat → Int) : Int := minW n 1 (b 5) fun l => b (5 + l).toNat
def bKey (n : Nat) (b : Nat → Int) : Int := bFd n b * 1000000000 + bRank b
theorem fd_blk {s : Nat → Int} {i : Int} (hi : 0 ≤ i) (h3 : s 3 ≤ 6) : mFirstDue s i = bFd (s 3 - 1).toNat (blk s i.toNat) := by
  unfold mFirstDue bFd
  rw [mAi_blk hi (by decide), show (5 : Int).toNat = 5 from rfl]
  refine minW_congr _ _ _ (fun l l0 l1 => ?_)
  rw [mAi_blk hi (by omega)]
theorem key_lt {n : Nat} {b x : Nat → Int} (hb : 0 ≤ bRank b ∧ bRank b < 1000000000) (hx : 0 ≤ bRank x ∧ bRank x < 1000000000) : bKey n b < bKey n x ↔ bFd n b < bFd n x ∨ (bFd n b = bFd n x ∧ bRank b < bRank x) := by
  unfold bKey
  omega
theorem rank_rng {c : Int} {s b : Nat → Int} (hM : MI c s) (hb : b ∈ airL s) : 0 ≤ bRank b ∧ bRank b < 1000000000 := by
  obtain ⟨i, i0, i4, rfl⟩ := airL_of hb
  obtain ⟨b1, b2, b3, -⟩ := hM.2.2.2.2.2.1.2.2 i i0 i4
  rw [← mRank_blk i0]
  unfold mRank
  omega
def fdS (s : Nat → Int) : List (Nat → Int) := (airL s).mergeSort fun b c => decide (bKey (s 3 - 1).toNat b ≤ bKey (s 3 - 1).toNat c)
theorem fdS_perm {s : Nat → Int} : (fdS s).Perm (airL s) := List.mergeSort_perm _ _
theorem fdS_len {s : Nat → Int} : (fdS s).length = (s 4).toNat := by rw [fdS_perm.length_eq, airL_len]
theorem fdS_lt {c : Int} {s : Nat → Int} (hM : MI c s) : (fdS s).Pairwise (fun b c => bKey (s 3 - 1).toNat b < bKey (s 3 - 1).toNat c) := by
  have h1 : (fdS s).Pairwise (fun b c => decide (bKey (s 3 - 1).toNat b ≤ bKey (s 3 - 1).toNat c) = true) := List.pairwise_mergeSort (fun a b c h1 h2 => by simp at *; omega) (fun a b => by simp; omega) _
  have h2 : (fdS s).Pairwise (fun b c => bRank b ≠ bRank c) := ((fdS_perm (s := s)).pairwise_iff (fun h => Ne.symm h)).mpr (airL_nd hM)
  refine List.Pairwise.imp_of_mem (fun {b c} hb hc h => ?_) (h1.and h2)
  obtain ⟨h4, h5⟩ := h
  have r1 := rank_rng hM (fdS_perm.mem_iff.mp hb)
  have r2 := rank_rng hM (fdS_perm.mem_iff.mp hc)
  simp only [decide_eq_true_eq] at h4
  unfold bKey at *
  omega
/-- which one has so many ahead of it -/
theorem at_iff {α : Type} {K : α → Int} {D X : List α} (hp : X.Perm D) (hD : D.Pairwise (fun b c => K b < K c)) {x : α} (hx : x ∈ X) {i : Nat} (hi : i < D.length) : X.countP (fun b => decide (K b < K x)) = i ↔ x = D[i] := by
  rw [hp.countP_eq]
  obtain ⟨q, hq, rfl⟩ := List.mem_iff_getElem.mp (hp.mem_iff.mp hx)
  rw [rank_at D hD q hq]
  constructor
  · rintro rfl; rfl
  · intro h
    rcases Nat.lt_trichotomy q i with h1 | h1 | h1
    · have := List.pairwise_iff_getElem.mp hD q i hq hi h1
      rw [h] at this; omega
    · exact h1
    · have := List.pairwise_iff_getElem.mp hD i q hi hq h1
      rw [h] at this; omega
theorem sg_fd {v : Nat → Nat → Int} {s : Nat → Int} {B : Nat} {c : Nat → Int} (h : sgR v s B c) (h3 : 1 ≤ s 3) : v B 4 = bFd (s 3 - 1).toNat c := by
  obtain ⟨a1, a2, a3, a4, a5, a6, a7, a8, a9, a10, a11, a12⟩ := h
  have h0 := a7 0 (by decide) (by omega)
  rw [show ((5 : Int) + 0).toNat = 5 from rfl] at h0
  rw [a5, show (s 3).toNat = (s 3 - 1).toNat + 1 from by omega, minW]
  unfold bFd
  have h5 : min (c 2 + 29) (c ((5 : Int) + 0).toNat) = c 5 := by
    rw [show ((5 : Int) + 0).toNat = 5 from rfl]; omega
  rw [h5]; rfl
theorem fd_rng {v : Nat → Nat → Int} {s : Nat → Int} {B : Nat} {c : Nat → Int} (h : sgR v s B c) (h3 : 1 ≤ s 3) : 0 ≤ bFd (s 3 - 1).toNat c ∧ bFd (s 3 - 1).toNat c ≤ s 1 + 29 := by
  obtain ⟨a1, a2, a3, a4, a5, a6, a7, a8, a9, a10, a11, a12⟩ := h
  have h0 := a7 0 (by decide) (by omega)
  rw [show ((5 : Int) + 0).toNat = 5 from rfl] at h0
  have := minW_rng (f := fun l => c (5 + l).toNat) (lo := 0) (s 3 - 1).toNat 1 (c 5) (by omega) (fun i i0 i1 => by have := a7 i (by omega) (by omega); omega)
  unfold bFd
  omega
section AIM
variable {L : Nat} {u : Nat → Nat → Int} {a : Nat → Nat → Nat} {t : Nat × Nat × Nat} {R : Nat} {C : List (Nat → Int)} {s : Nat → Int} {c : Int}
def rkB (u : Nat → Nat → Int) (b : Nat → Nat) (R : Nat) (i o : Int) : Bool := decide (u (R + 12 + 3 * b o.toNat) 4 < u (R + 12 + 3 * b i.toNat) 4) || (decide (u (R + 12 + 3 * b o.toNat) 4 = u (R + 12 + 3 * b i.toNat) 4) && decide (o < i))
theorem C_rank_loop {i n : Int} (hR : isRad R) (hb : ∀ p, p < 30 → a R p < 30) (hn : n ≤ 30) (hi : 0 ≤ i ∧ i < n) (hsz : u (R + 10) 1 = n) (hF : ∀ o : Nat, (o : Int) < n → 0 ≤ u (R + 12 + 3 * a R o) 4 ∧ u (R + 12 + 3 * a R o) 4 ≤ 1000000) : ∀ (d : Nat) (x acc : Int) (z : AV), 0 ≤ x → x + d = n → 0 ≤ acc ∧ acc ≤ x → a_X 7 4 [a_r (R + 10), a_i i, a_i acc, a_i x, z] [] (K0 L, u, G a, t) = some (.inl (some (a_i (sumW d x acc (fun o => bi (rkB u (a R) R i o))))), (K0 L, u, G a, t)) := by
  intro d
  induction d with
  | zero => intro x acc z x0 hx ha; rw [B_X0_rankByFirstDue_4]; simp (disch := first | assumption | omega) only [kR0, kR9, kR10, kR11, kR102, gR0_0, gR0_1, gR0_2, gR0_3, gR10_0, gR11, gR102, B_X0_rankByFirstDue_0, Option.bind_some, back_v, Option.toList_some, Option.toList_none, List.cons_append, List.nil_append, Nat.reduceAdd, Int.reduceToNat, Int.reduceNeg, upm_eq, upm_r, upm_i, if_pos, if_neg, ite_self, true_or, or_true, true_and, and_true, false_or, or_false, false_and, and_false, wr_id, i10, i01, upr_f, upr_eq, thr58, upm_upr, upr_upr, lc_lt, lc_gt, lc_ge, lc_le, afit1, afit0, afitI, bifit, not_true_eq_false, not_false_eq_true, if_true, if_false, Bool.false_eq_true, reduceCtorEq, k1557, k1558, g1557_2, hsz, sumW]
  | succ d ih =>
    intro x acc z x0 hx ha
    have bi' := hb i.toNat (by omega)
    have bx' := hb x.toNat (by omega)
    have f1 := hF i.toNat (by omega)
    have f2 := hF x.toNat (by omega)
    have i30 : i.toNat < 30 := by omega
    have x30 : x.toNat < 30 := by omega
    have x30' : x < ((30 : Nat) : Int) := by omega
    have i30' : i < ((30 : Nat) : Int) := by omega
    have wz : wr (u (R + 12 + 3 * a R x.toNat) 4 - u (R + 12 + 3 * a R i.toNat) 4) = u (R + 12 + 3 * a R x.toNat) 4 - u (R + 12 + 3 * a R i.toNat) 4 := wr_id (by omega) (by omega)
    have xn : ¬ x ≥ n := by omega
    rw [sumW]
    rw [B_X0_rankByFirstDue_4]
    by_cases h1 : u (R + 12 + 3 * a R x.toNat) 4 < u (R + 12 + 3 * a R i.toNat) 4
    · have e : rkB u (a R) R i x = true := by unfold rkB; simp [h1]
      have h1' : u (R + 12 + 3 * a R x.toNat) 4 - u (R + 12 + 3 * a R i.toNat) 4 < 0 := by omega
      rw [e, bi_t, wr_id (z := acc + 1) (by omega) (by omega)]
      simp (disch := first | assumption | omega) only [kR0, kR9, kR10, kR11, kR102, gR0_0, gR0_1, gR0_2, gR0_3, gR10_0, gR11, gR102, kRs0, kRs1, kRs2, gRs_6, gRs_7, B_X0_rankByFirstDue_0, Option.bind_some, back_v, Option.toList_some, Option.toList_none, List.cons_append, List.nil_append, Nat.reduceAdd, Int.reduceToNat, Int.reduceNeg, upm_eq, upm_r, upm_i, if_pos, if_neg, ite_self, true_or, or_true, true_and, and_true, false_or, or_false, false_and, and_false, wr_id, i10, i01, upr_f, upr_eq, thr58, upm_upr, upr_upr, lc_lt, lc_gt, lc_ge, lc_le, afit1, afit0, afitI, bifit, not_true_eq_false, not_false_eq_true, if_true, if_false, Bool.false_eq_true, reduceCtorEq, k1557, k1558, g1557_2, hsz, wz, h1']
      exact ih _ _ _ (by omega) (by omega) (by omega)
    · have h1' : ¬ u (R + 12 + 3 * a R x.toNat) 4 - u (R + 12 + 3 * a R i.toNat) 4 < 0 := by omega
      by_cases h2 : u (R + 12 + 3 * a R x.toNat) 4 = u (R + 12 + 3 * a R i.toNat) 4
      · have h2' : ¬ u (R + 12 + 3 * a R x.toNat) 4 - u (R + 12 + 3 * a R i.toNat) 4 ≠ 0 := by omega
        by_cases h3 : x < i
        · have e : rkB u (a R) R i x = true := by unfold rkB; simp [h2, h3]
          have h3' : ¬ x ≥ i := by omega
          rw [e, bi_t, wr_id (z := acc + 1) (by omega) (by omega)]
          simp (disch := first | assumption | omega) only [kR0, kR9, kR10, kR11, kR102, gR0_0, gR0_1, gR0_2, gR0_3, gR10_0, gR11, gR102, kRs0, kRs1, kRs2, gRs_6, gRs_7, B_X0_rankByFirstDue_0, Option.bind_some, back_v, Option.toList_some, Option.toList_none, List.cons_append, List.nil_append, Nat.reduceAdd, Int.reduceToNat, Int.reduceNeg, upm_eq, upm_r, upm_i, if_pos, if_neg, ite_self, true_or, or_true, true_and, and_true, false_or, or_false, false_and, and_false, wr_id, i10, i01, upr_f, upr_eq, thr58, upm_upr, upr_upr, lc_lt, lc_gt, lc_ge, lc_le, afit1, afit0, afitI, bifit, not_true_eq_false, not_false_eq_true, if_true, if_false, Bool.false_eq_true, reduceCtorEq, k1557, k1558, g1557_2, hsz, wz, h1', h2', h3']
          exact ih _ _ _ (by omega) (by omega) (by omega)
        · have e : rkB u (a R) R i x = false := by unfold rkB; simp [h2, h3]
          have h3' : x ≥ i := by omega
          rw [e, bi_f, Int.add_zero, wr_id (z := acc) (by omega) (by omega)]
          simp (disch := first | assumption | omega) only [kR0, kR9, kR10, kR11, kR102, gR0_0, gR0_1, gR0_2, gR0_3, gR10_0, gR11, gR102, kRs0, kRs1, kRs2, gRs_6, gRs_7, B_X0_rankByFirstDue_0, Option.bind_some, back_v, Option.toList_some, Option.toList_none, List.cons_append, List.nil_append, Nat.reduceAdd, Int.reduceToNat, Int.reduceNeg, upm_eq, upm_r, upm_i, if_pos, if_neg, ite_self, true_or, or_true, true_and, and_true, false_or, or_false, false_and, and_false, wr_id, i10, i01, upr_f, upr_eq, thr58, upm_upr, upr_upr, lc_lt, lc_gt, lc_ge, lc_le, afit1, afit0, afitI, bifit, not_true_eq_false, not_false_eq_true, if_true, if_false, Bool.false_eq_true, reduceCtorEq, k1557, k1558, g1557_2, hsz, wz, h1', h2', h3']
          exact ih _ _ _ (by omega) (by omega) (by omega)
      · have h2' : u (R + 12 + 3 * a R x.toNat) 4 - u (R + 12 + 3 * a R i.toNat) 4 ≠ 0 := by omega
        have e : rkB u (a R) R i x = false := by unfold rkB; simp [h1, h2]
        rw [e, bi_f, Int.add_zero, wr_id (z := acc) (by omega) (by omega)]
        simp (disch := first | assumption | omega) only [kR0, kR9, kR10, kR11, kR102, gR0_0, gR0_1, gR0_2, gR0_3, gR10_0, gR11, gR102, kRs0, kRs1, kRs2, gRs_6, gRs_7, B_X0_rankByFirstDue_0, Option.bind_some, back_v, Option.toList_some, Option.toList_none, List.cons_append, List.nil_append, Nat.reduceAdd, Int.reduceToNat, Int.reduceNeg, upm_eq, upm_r, upm_i, if_pos, if_neg, ite_self, true_or, or_true, true_and, and_true, false_or, or_false, false_and, and_false, wr_id, i10, i01, upr_f, upr_eq, thr58, upm_upr, upr_upr, lc_lt, lc_gt, lc_ge, lc_le, afit1, afit0, afitI, bifit, not_true_eq_false, not_false_eq_true, if_true, if_false, Bool.false_eq_true, reduceCtorEq, k1557, k1558, g1557_2, hsz, wz, h1', h2']
        exact ih _ _ _ (by omega) (by omega) (by omega)
/-- what the class has on the air -/
theorem air_facts (h : RelC (vw u R) (a R) C s) (hM : MI c s) : (∀ p, p < 30 → a R p < 30) ∧ C.Perm (airL s) ∧ C.Pairwise (fun x y => bRank x < bRank y) ∧ (C.length : Int) = s 4 ∧ C.length ≤ 30 ∧ u (R + 10) 1 = C.length ∧ ∀ (p : Nat) (hp : p < C.length), sgR (vw u R) s (12 + 3 * a R p) C[p] := by
  obtain ⟨f4, f5, f6, f7, f8, f17, f10, fl⟩ := rel_facts h
  have hA := hM.2.2.2.2.2.1
  have hlen := airR_len h.2.2.2.2.2.2
  obtain ⟨q1, q2, q3, q4, q5⟩ := h.2.2.2.2.2.2
  have h1 := hA.1
  have h2 := hA.2.1
  exact ⟨q1, q3, q4, by omega, by omega, by omega, q5⟩
theorem C_rank {p : Nat} (hR : isRad R) (h : RelC (vw u R) (a R) C s) (hM : MI c s) (h1 : s 1 ≤ 20000) (hp : p < C.length) : a_m 7 [a_r (R + 10), a_i p] (K0 L, u, G a, t) = some (.inl (some (a_i ((C.countP (fun b => decide (bKey (s 3 - 1).toNat b < bKey (s 3 - 1).toNat C[p])) : Nat)))), (K0 L, u, G a, t)) := by
  obtain ⟨g1, g2, g3, g4, g5, g6, g7⟩ := air_facts h hM
  have hM3 := hM.2.2.2.1
  have hM1 := hM.2.1
  have fd : ∀ (o : Nat) (ho : o < C.length), u (R + 12 + 3 * a R o) 4 = bFd (s 3 - 1).toNat C[o] ∧ 0 ≤ bFd (s 3 - 1).toNat C[o] ∧ bFd (s 3 - 1).toNat C[o] ≤ s 1 + 29 := by
    intro o ho
    have := sg_fd (g7 o ho) hM3.1
    rw [← vw_s0 u (g1 o (by omega))] at this
    exact ⟨this, fd_rng (g7 o ho) hM3.1⟩
  have key := C_rank_loop (L := L) (u := u) (a := a) (t := t) (R := R) (i := p) (n := C.length) hR g1 (by omega) (by omega) g6 (fun o ho => by have := fd o (by omega); omega)
  have hs := sumW_cnt (p := fun b => decide (bKey (s 3 - 1).toNat b < bKey (s 3 - 1).toNat C[p])) (f := fun o => bi (rkB u (a R) R p o)) C 0 0 (by decide) (by omega) (fun j hj => by
    show bi (rkB u (a R) R p (0 + (j : Int))) = _
    congr 1
    unfold rkB
    rw [Int.zero_add, Int.toNat_natCast, Int.toNat_natCast, (fd j hj).1, (fd p hp).1]
    have hk := key_lt (n := (s 3 - 1).toNat) (rank_rng hM (g2.mem_iff.mp (List.getElem_mem hj))) (rank_rng hM (g2.mem_iff.mp (List.getElem_mem hp)))
    have hr : bRank C[j] < bRank C[p] ↔ (j : Int) < p := by
      rcases Nat.lt_trichotomy j p with h1 | h1 | h1
      · have := List.pairwise_iff_getElem.mp g3 j p hj hp h1; omega
      · subst h1; omega
      · have := List.pairwise_iff_getElem.mp g3 p j hp hj h1; omega
    rw [Bool.eq_iff_iff]
    simp only [Bool.or_eq_true, Bool.and_eq_true, decide_eq_true_eq, hk, hr])
  rw [Int.zero_add] at hs
  rw [← hs]
  simp (disch := first | assumption | omega) only [E_X0_rankByFirstDue, B_X0_rankByFirstDue_0, Option.bind_some, back_v, Option.toList_some, Option.toList_none, List.cons_append, List.nil_append, Nat.reduceAdd, Int.reduceToNat, Int.reduceNeg, upm_eq, upm_r, upm_i, if_pos, if_neg, ite_self, true_or, or_true, true_and, and_true, false_or, or_false, false_and, and_false, wr_id, i10, i01, upr_f, upr_eq, thr58, upm_upr, upr_upr, lc_lt, lc_gt, lc_ge, lc_le, afit1, afit0, afitI, bifit, not_true_eq_false, not_false_eq_true, if_true, if_false, Bool.false_eq_true, reduceCtorEq, k1557, k1558, g1557_2]
  exact key _ _ _ _ (by decide) (by omega) (by decide)
theorem C_byFirstDue {i : Nat} (hR : isRad R) (h : RelC (vw u R) (a R) C s) (hM : MI c s) (h1 : s 1 ≤ 20000) (hi : i < (fdS s).length) : ∃ (p : Nat) (hp : p < C.length), C[p] = (fdS s)[i] ∧ a_m 6 [a_r (R + 10), a_i i] (K0 L, u, G a, t) = some (.inl (some (a_r (R + 12 + 3 * a R p))), (K0 L, u, G a, t)) := by
  obtain ⟨g1, g2, g3, g4, g5, g6, g7⟩ := air_facts h hM
  have hpm : C.Perm (fdS s) := g2.trans fdS_perm.symm
  obtain ⟨p, hp, hpe⟩ := List.mem_iff_getElem.mp (hpm.mem_iff.mpr (List.getElem_mem hi))
  refine ⟨p, hp, hpe, ?_⟩
  have e30 : ∀ q : Nat, q < C.length → (q : Int) < ((30 : Nat) : Int) := fun q hq => by omega
  have step : ∀ q : Nat, q < C.length → C[q]? ≠ some (fdS s)[i] → a_X 6 2 [a_r (R + 10), a_i i, a_i (q : Int)] [] (K0 L, u, G a, t) = a_X 6 2 [a_r (R + 10), a_i i, a_i ((q + 1 : Nat) : Int)] [] (K0 L, u, G a, t) := by
    intro q hq hne
    have hr := C_rank (L := L) (t := t) hR h hM h1 hq
    have hc : ((C.countP (fun b => decide (bKey (s 3 - 1).toNat b < bKey (s 3 - 1).toNat C[q])) : Nat) : Int) ≠ (i : Int) := by
      intro hh
      have := (at_iff hpm (fdS_lt hM) (List.getElem_mem hq) hi).mp (by omega)
      exact hne (by rw [List.getElem?_eq_getElem hq, this])
    have hq2 : ¬ (q : Int) ≥ C.length := by omega
    rw [B_X0_byFirstDue_2]
    simp (disch := first | assumption | omega) only [kR0, kR9, kR10, kR11, kR102, gR0_0, gR0_1, gR0_2, gR0_3, gR10_0, gR11, gR102, B_X0_byFirstDue_0, B_X0_byFirstDue_15, Option.bind_some, back_v, Option.toList_some, Option.toList_none, List.cons_append, List.nil_append, Nat.reduceAdd, Int.reduceToNat, Int.reduceNeg, upm_eq, upm_r, upm_i, if_pos, if_neg, ite_self, true_or, or_true, true_and, and_true, false_or, or_false, false_and, and_false, wr_id, i10, i01, upr_f, upr_eq, thr58, upm_upr, upr_upr, lc_lt, lc_gt, lc_ge, lc_le, afit1, afit0, afitI, bifit, not_true_eq_false, not_false_eq_true, if_true, if_false, Bool.false_eq_true, reduceCtorEq, k1557, k1558, g1557_2, g6, hq2, hr, hc]
    rw [show ((q + 1 : Nat) : Int) = (q : Int) + 1 from by omega]
  have run : ∀ q : Nat, q ≤ p → a_X 6 2 [a_r (R + 10), a_i i, a_i 0] [] (K0 L, u, G a, t) = a_X 6 2 [a_r (R + 10), a_i i, a_i (q : Int)] [] (K0 L, u, G a, t) := by
    intro q
    induction q with
    | zero => intro _; rfl
    | succ q ih =>
      intro hq
      rw [ih (by omega), step q (by omega) (fun hh => ?_)]
      rw [List.getElem?_eq_getElem (by omega)] at hh
      have e1 : C[q] = C[p] := by rw [hpe]; exact Option.some.inj hh
      have := List.pairwise_iff_getElem.mp g3 q p (by omega) hp (by omega)
      rw [e1] at this; omega
  have hr := C_rank (L := L) (t := t) hR h hM h1 hp
  rw [(at_iff hpm (fdS_lt hM) (List.getElem_mem hp) hi).mpr hpe] at hr
  have hp2 : ¬ (p : Int) ≥ C.length := by omega
  have hb := g1 p (by omega)
  have p30 : p < 30 := by omega
  have hfin : a_X 6 2 [a_r (R + 10), a_i i, a_i (p : Int)] [] (K0 L, u, G a, t) = some (.inl (some (a_r (R + 12 + 3 * a R p))), (K0 L, u, G a, t)) := by
    rw [B_X0_byFirstDue_2]
    simp (disch := first | assumption | omega) only [kR0, kR9, kR10, kR11, kR102, gR0_0, gR0_1, gR0_2, gR0_3, gR10_0, gR11, gR102, B_X0_byFirstDue_0, B_X0_byFirstDue_15, Option.bind_some, back_v, Option.toList_some, Option.toList_none, List.cons_append, List.nil_append, Nat.reduceAdd, Int.reduceToNat, Int.reduceNeg, upm_eq, upm_r, upm_i, if_pos, if_neg, ite_self, true_or, or_true, true_and, and_true, false_or, or_false, false_and, and_false, wr_id, i10, i01, upr_f, upr_eq, thr58, upm_upr, upr_upr, lc_lt, lc_gt, lc_ge, lc_le, afit1, afit0, afitI, bifit, not_true_eq_false, not_false_eq_true, if_true, if_false, Bool.false_eq_true, reduceCtorEq, k1557, k1558, g1557_2, g6, hp2, hr, Int.toNat_natCast]
  rw [← hfin, ← run p (Nat.le_refl _)]
  simp (disch := first | assumption | omega) only [E_X0_byFirstDue, B_X0_byFirstDue_0, B_X0_byFirstDue_15, Option.bind_some, back_v, Option.toList_some, Option.toList_none, List.cons_append, List.nil_append, Nat.reduceAdd, Int.reduceToNat, Int.reduceNeg, upm_eq, upm_r, upm_i, if_pos, if_neg, ite_self, true_or, or_true, true_and, and_true, false_or, or_false, false_and, and_false, wr_id, i10, i01, upr_f, upr_eq, thr58, upm_upr, upr_upr, lc_lt, lc_gt, lc_ge, lc_le, afit1, afit0, afitI, bifit, not_true_eq_false, not_false_eq_true, if_true, if_false, Bool.false_eq_true, reduceCtorEq, k1557, k1558, g1557_2]
/-- the reference's search -/
def aheadM (s : Nat → Int) (i o : Int) : Bool := decide (bKey (s 3 - 1).toNat (blk s i.toNat) < bKey (s 3 - 1).toNat (blk s o.toNat))
theorem M_ahead {i o : Int} (hM : MI c (u 1558)) (hi : 0 ≤ i ∧ i < u 1558 4) (ho : 0 ≤ o ∧ o < u 1558 4) : a_m 196 [a_r 1557, a_i i, a_i o] (K0 L, u, G a, t) = some (.inl (some (a_i (bi (aheadM (u 1558) i o)))), (K0 L, u, G a, t)) := by
  have hA := hM.2.2.2.2.2.1
  obtain ⟨b1, b2, b3, -⟩ := hA.2.2 i hi.1 hi.2
  obtain ⟨c1, c2, c3, -⟩ := hA.2.2 o ho.1 ho.2
  have h30 := hA.2.1
  have h3 := hM.2.2.2.1
  rw [M_isAhead (L := L) ⟨hi.1, by omega⟩ ⟨ho.1, by omega⟩ h3 b1 b2 b3 c1 c2 c3, fd_blk hi.1 h3.2, fd_blk ho.1 h3.2, mRank_blk hi.1, mRank_blk ho.1]
  have hk := key_lt (n := (u 1558 3 - 1).toNat) (rank_rng hM (airL_mem hi.1 hi.2)) (rank_rng hM (airL_mem ho.1 ho.2))
  have : (decide (bFd (u 1558 3 - 1).toNat (blk (u 1558) i.toNat) < bFd (u 1558 3 - 1).toNat (blk (u 1558) o.toNat)) || (decide (bFd (u 1558 3 - 1).toNat (blk (u 1558) i.toNat) = bFd (u 1558 3 - 1).toNat (blk (u 1558) o.toNat)) && decide (bRank (blk (u 1558) i.toNat) < bRank (blk (u 1558) o.toNat)))) = aheadM (u 1558) i o := by
    unfold aheadM
    rw [Bool.eq_iff_iff]
    simp only [Bool.or_eq_true, Bool.and_eq_true, decide_eq_true_eq, hk]
  rw [this]
theorem M_airAt_in {i x : Int} (hM : MI c (u 1558)) (hx : 0 ≤ x ∧ x < u 1558 4) : ∀ (d : Nat) (o acc : Int), 0 ≤ o → o + d = u 1558 4 → 0 ≤ acc ∧ acc ≤ o → a_X 197 17 [a_r 1557, a_i i, a_i x, a_i acc, a_i o] [] (K0 L, u, G a, t) = a_X 197 17 [a_r 1557, a_i i, a_i x, a_i (sumW d o acc (fun o => bi (aheadM (u 1558) o x))), a_i (u 1558 4)] [] (K0 L, u, G a, t) := by
  have hA := hM.2.2.2.2.2.1
  have h30 := hA.2.1
  intro d
  induction d with
  | zero => intro o acc o0 ho ha; rw [sumW, show o = u 1558 4 from by omega]
  | succ d ih =>
    intro o acc o0 ho ha
    have hb := bi_lo (b := aheadM (u 1558) o x)
    have hb2 := bi_hi (b := aheadM (u 1558) o x)
    have on : ¬ o ≥ u 1558 4 := by omega
    rw [sumW, wr_id (by omega) (by omega), ← ih (o + 1) _ (by omega) (by omega) (by omega)]
    rw [B_X11_airAt_17]
    by_cases hox : o = x
    · subst hox
      have e : aheadM (u 1558) o o = false := by unfold aheadM; simp
      rw [e, bi_f, Int.add_zero]
      simp (disch := first | assumption | omega) only [k1559, k1560, k1561, k1562, k1563, k1564, k1565, k1566, k1567, g1557_3, g1557_5, g1557_6, g1557_17, g1557_18, g1557_19, g1557_20, g1557_21, g1557_23, B_X11_airAt_0, B_X11_airAt_53, B_X11_airAt_42, Option.bind_some, back_v, Option.toList_some, Option.toList_none, List.cons_append, List.nil_append, Nat.reduceAdd, Int.reduceToNat, Int.reduceNeg, upm_eq, upm_r, upm_i, if_pos, if_neg, ite_self, true_or, or_true, true_and, and_true, false_or, or_false, false_and, and_false, wr_id, i10, i01, upr_f, upr_eq, thr58, upm_upr, upr_upr, lc_lt, lc_gt, lc_ge, lc_le, afit1, afit0, afitI, bifit, not_true_eq_false, not_false_eq_true, if_true, if_false, Bool.false_eq_true, reduceCtorEq, k1557, k1558, g1557_2, on, M_flag0, Int.add_zero]
    · have hm := M_ahead (L := L) (u := u) (a := a) (t := t) (i := o) (o := x) hM ⟨o0, by omega⟩ hx
      cases hc : aheadM (u 1558) o x with
      | true => rw [hc] at hm; simp (disch := first | assumption | omega) only [k1559, k1560, k1561, k1562, k1563, k1564, k1565, k1566, k1567, g1557_3, g1557_5, g1557_6, g1557_17, g1557_18, g1557_19, g1557_20, g1557_21, g1557_23, B_X11_airAt_0, B_X11_airAt_53, B_X11_airAt_42, Option.bind_some, back_v, Option.toList_some, Option.toList_none, List.cons_append, List.nil_append, Nat.reduceAdd, Int.reduceToNat, Int.reduceNeg, upm_eq, upm_r, upm_i, if_pos, if_neg, ite_self, true_or, or_true, true_and, and_true, false_or, or_false, false_and, and_false, wr_id, i10, i01, upr_f, upr_eq, thr58, upm_upr, upr_upr, lc_lt, lc_gt, lc_ge, lc_le, afit1, afit0, afitI, bifit, not_true_eq_false, not_false_eq_true, if_true, if_false, Bool.false_eq_true, reduceCtorEq, k1557, k1558, g1557_2, on, hox, hm, bi_t, M_flag1]
      | false => rw [hc] at hm; simp (disch := first | assumption | omega) only [k1559, k1560, k1561, k1562, k1563, k1564, k1565, k1566, k1567, g1557_3, g1557_5, g1557_6, g1557_17, g1557_18, g1557_19, g1557_20, g1557_21, g1557_23, B_X11_airAt_0, B_X11_airAt_53, B_X11_airAt_42, Option.bind_some, back_v, Option.toList_some, Option.toList_none, List.cons_append, List.nil_append, Nat.reduceAdd, Int.reduceToNat, Int.reduceNeg, upm_eq, upm_r, upm_i, if_pos, if_neg, ite_self, true_or, or_true, true_and, and_true, false_or, or_false, false_and, and_false, wr_id, i10, i01, upr_f, upr_eq, thr58, upm_upr, upr_upr, lc_lt, lc_gt, lc_ge, lc_le, afit1, afit0, afitI, bifit, not_true_eq_false, not_false_eq_true, if_true, if_false, Bool.false_eq_true, reduceCtorEq, k1557, k1558, g1557_2, on, hox, hm, bi_f, M_flag0]
theorem M_airAt {i : Nat} (hM : MI c (u 1558)) (hi : i < (fdS (u 1558)).length) : ∃ p : Nat, (p : Int) < u 1558 4 ∧ blk (u 1558) p = (fdS (u 1558))[i] ∧ a_m 197 [a_r 1557, a_i i] (K0 L, u, G a, t) = some (.inl (some (a_i ((p : Int)))), (K0 L, u, G a, t)) := by
  have hA := hM.2.2.2.2.2.1
  have h0 := hA.1
  have h30 := hA.2.1
  obtain ⟨p, hp, hpe⟩ := List.mem_iff_getElem.mp ((fdS_perm (s := u 1558)).mem_iff.mp (List.getElem_mem hi))
  have hp4 := hp
  rw [airL_len] at hp4
  refine ⟨p, by omega, by rw [← hpe, airL_get], ?_⟩
  have cnt : ∀ q : Nat, (hq : q < (airL (u 1558)).length) → sumW (u 1558 4).toNat 0 0 (fun o => bi (aheadM (u 1558) o q)) = ((airL (u 1558)).countP (fun b => decide (bKey (u 1558 3 - 1).toNat b < bKey (u 1558 3 - 1).toNat (airL (u 1558))[q])) : Nat) := by
    intro q hq
    have hs := sumW_cnt (p := fun b => decide (bKey (u 1558 3 - 1).toNat b < bKey (u 1558 3 - 1).toNat (airL (u 1558))[q])) (f := fun o => bi (aheadM (u 1558) o q)) (airL (u 1558)) 0 0 (by decide) (by rw [airL_len]; omega) (fun j hj => by
      show bi (aheadM (u 1558) (0 + (j : Int)) q) = _
      unfold aheadM
      rw [Int.zero_add, Int.toNat_natCast, Int.toNat_natCast, airL_get, airL_get])
    rw [Int.zero_add, airL_len] at hs
    exact hs
  have ain : ∀ (q : Nat) (y z : AV), q < (u 1558 4).toNat → a_X 197 2 [a_r 1557, a_i i, a_i (q : Int), y, z] [] (K0 L, u, G a, t) = a_X 197 17 [a_r 1557, a_i i, a_i (q : Int), a_i (sumW (u 1558 4).toNat 0 0 (fun o => bi (aheadM (u 1558) o q))), a_i (u 1558 4)] [] (K0 L, u, G a, t) := by
    intro q y z hq
    rw [← M_airAt_in (L := L) (t := t) (i := i) (x := q) hM (by omega) (u 1558 4).toNat 0 0 (by decide) (by omega) (by decide)]
    have hq2 : ¬ (q : Int) ≥ u 1558 4 := by omega
    rw [B_X11_airAt_2]
    simp (disch := first | assumption | omega) only [k1559, k1560, k1561, k1562, k1563, k1564, k1565, k1566, k1567, g1557_3, g1557_5, g1557_6, g1557_17, g1557_18, g1557_19, g1557_20, g1557_21, g1557_23, Option.bind_some, back_v, Option.toList_some, Option.toList_none, List.cons_append, List.nil_append, Nat.reduceAdd, Int.reduceToNat, Int.reduceNeg, upm_eq, upm_r, upm_i, if_pos, if_neg, ite_self, true_or, or_true, true_and, and_true, false_or, or_false, false_and, and_false, wr_id, i10, i01, upr_f, upr_eq, thr58, upm_upr, upr_upr, lc_lt, lc_gt, lc_ge, lc_le, afit1, afit0, afitI, bifit, not_true_eq_false, not_false_eq_true, if_true, if_false, Bool.false_eq_true, reduceCtorEq, k1557, k1558, g1557_2, hq2]
  have step : ∀ (q : Nat) (y z : AV), q < p → ∃ y' z' : AV, a_X 197 2 [a_r 1557, a_i i, a_i (q : Int), y, z] [] (K0 L, u, G a, t) = a_X 197 2 [a_r 1557, a_i i, a_i ((q + 1 : Nat) : Int), y', z'] [] (K0 L, u, G a, t) := by
    intro q y z hq
    have hq' : q < (airL (u 1558)).length := by rw [airL_len]; omega
    have hc : ((((airL (u 1558)).countP (fun b => decide (bKey (u 1558 3 - 1).toNat b < bKey (u 1558 3 - 1).toNat (airL (u 1558))[q]))) : Nat) : Int) ≠ (i : Int) := by
      intro hh
      have h9 := (at_iff (fdS_perm (s := u 1558)).symm (fdS_lt hM) (List.getElem_mem hq') hi).mp (by omega)
      rw [← hpe] at h9
      have := List.pairwise_iff_getElem.mp (airL_nd hM) q p hq' hp hq
      exact this (by rw [h9])
    rw [ain q y z (by omega), cnt q hq', B_X11_airAt_17]
    generalize hg : ((((airL (u 1558)).countP (fun b => decide (bKey (u 1558 3 - 1).toNat b < bKey (u 1558 3 - 1).toNat (airL (u 1558))[q]))) : Nat) : Int) = g at *
    refine ⟨a_i g, a_i (u 1558 4), ?_⟩
    rw [show ((q + 1 : Nat) : Int) = (q : Int) + 1 from by omega]
    simp (disch := first | assumption | omega) only [k1559, k1560, k1561, k1562, k1563, k1564, k1565, k1566, k1567, g1557_3, g1557_5, g1557_6, g1557_17, g1557_18, g1557_19, g1557_20, g1557_21, g1557_23, Option.bind_some, back_v, Option.toList_some, Option.toList_none, List.cons_append, List.nil_append, Nat.reduceAdd, Int.reduceToNat, Int.reduceNeg, upm_eq, upm_r, upm_i, if_pos, if_neg, ite_self, true_or, or_true, true_and, and_true, false_or, or_false, false_and, and_false, wr_id, i10, i01, upr_f, upr_eq, thr58, upm_upr, upr_upr, lc_lt, lc_gt, lc_ge, lc_le, afit1, afit0, afitI, bifit, not_true_eq_false, not_false_eq_true, if_true, if_false, Bool.false_eq_true, reduceCtorEq, k1557, k1558, g1557_2, hc]
  have run : ∀ q : Nat, q ≤ p → ∀ y z : AV, ∃ y' z' : AV, a_X 197 2 [a_r 1557, a_i i, a_i 0, y, z] [] (K0 L, u, G a, t) = a_X 197 2 [a_r 1557, a_i i, a_i (q : Int), y', z'] [] (K0 L, u, G a, t) := by
    intro q
    induction q with
    | zero => intro _ y z; exact ⟨y, z, rfl⟩
    | succ q ih =>
      intro hq y z
      obtain ⟨y1, z1, e1⟩ := ih (by omega) y z
      obtain ⟨y2, z2, e2⟩ := step q y1 z1 (by omega)
      exact ⟨y2, z2, e1.trans e2⟩
  have hc2 : sumW (u 1558 4).toNat 0 0 (fun o => bi (aheadM (u 1558) o p)) = (i : Int) := by
    rw [cnt p hp, (at_iff (fdS_perm (s := u 1558)).symm (fdS_lt hM) (List.getElem_mem hp) hi).mpr hpe]
  have fin : ∀ y z : AV, a_X 197 2 [a_r 1557, a_i i, a_i (p : Int), y, z] [] (K0 L, u, G a, t) = some (.inl (some (a_i ((p : Int)))), (K0 L, u, G a, t)) := by
    intro y z
    rw [ain p y z (by omega), hc2, B_X11_airAt_17]
    simp (disch := first | assumption | omega) only [k1559, k1560, k1561, k1562, k1563, k1564, k1565, k1566, k1567, g1557_3, g1557_5, g1557_6, g1557_17, g1557_18, g1557_19, g1557_20, g1557_21, g1557_23, Option.bind_some, back_v, Option.toList_some, Option.toList_none, List.cons_append, List.nil_append, Nat.reduceAdd, Int.reduceToNat, Int.reduceNeg, upm_eq, upm_r, upm_i, if_pos, if_neg, ite_self, true_or, or_true, true_and, and_true, false_or, or_false, false_and, and_false, wr_id, i10, i01, upr_f, upr_eq, thr58, upm_upr, upr_upr, lc_lt, lc_gt, lc_ge, lc_le, afit1, afit0, afitI, bifit, not_true_eq_false, not_false_eq_true, if_true, if_false, Bool.false_eq_true, reduceCtorEq, k1557, k1558, g1557_2]
  rw [E_X11_airAt]
  obtain ⟨y1, z1, e1⟩ := run p (Nat.le_refl _) (a_x false) (a_x false)
  rw [← fin y1 z1, ← e1]
  simp (disch := first | assumption | omega) only [B_X11_airAt_0, B_X11_airAt_53, B_X11_airAt_42, Option.bind_some, back_v, Option.toList_some, Option.toList_none, List.cons_append, List.nil_append, Nat.reduceAdd, Int.reduceToNat, Int.reduceNeg, upm_eq, upm_r, upm_i, if_pos, if_neg, ite_self, true_or, or_true, true_and, and_true, false_or, or_false, false_and, and_false, wr_id, i10, i01, upr_f, upr_eq, thr58, upm_upr, upr_upr, lc_lt, lc_gt, lc_ge, lc_le, afit1, afit0, afitI, bifit, not_true_eq_false, not_false_eq_true, if_true, if_false, Bool.false_eq_true, reduceCtorEq, k1557, k1558, g1557_2]
end AIM
