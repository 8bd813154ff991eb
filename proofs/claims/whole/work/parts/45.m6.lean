/-! ===== the reference: listeners hear, a tick ===== -/
/-- due, and behind a rank -/
def duQ (s : Nat → Int) (l time r : Int) (j : Int) : Prop := mAi s j (5 + l) = time ∧ r < mRank s j
theorem mNextI {s : Nat → Int} {l time r : Int} : ∀ (d : Nat) (x best : Int), 0 ≤ x →
    ((best = -1 ∧ ∀ j, 0 ≤ j → j < x → ¬ duQ s l time r j) ∨ (0 ≤ best ∧ best < x ∧ duQ s l time r best ∧ ∀ j, 0 ≤ j → j < x → duQ s l time r j → mRank s best ≤ mRank s j)) →
    ((itA d x best (mNextF s l time r) = -1 ∧ ∀ j, 0 ≤ j → j < x + d → ¬ duQ s l time r j) ∨ (0 ≤ itA d x best (mNextF s l time r) ∧ itA d x best (mNextF s l time r) < x + d ∧ duQ s l time r (itA d x best (mNextF s l time r)) ∧ ∀ j, 0 ≤ j → j < x + d → duQ s l time r j → mRank s (itA d x best (mNextF s l time r)) ≤ mRank s j)) := by
  intro d
  induction d with
  | zero => intro x best h0 h; simpa [itA] using h
  | succ d ih =>
    intro x best h0 h
    have e : x + ((d + 1 : Nat) : Int) = (x + 1) + (d : Int) := by omega
    rw [itA, e]
    refine ih (x + 1) _ (by omega) ?_
    unfold mNextF
    by_cases hc : mAi s x (5 + l) = time ∧ r < mRank s x ∧ (best = -1 ∨ mRank s x < mRank s best)
    · rw [if_pos hc]
      refine .inr ⟨h0, by omega, ⟨hc.1, hc.2.1⟩, fun j hj0 hj hq => ?_⟩
      by_cases hx : j = x
      · subst hx; exact Int.le_refl _
      · rcases h with ⟨h1, h2⟩ | ⟨h1, h2, h3, h4⟩
        · exact absurd hq (h2 j hj0 (by omega))
        · have h5 := h4 j hj0 (by omega) hq
          rcases hc.2.2 with h6 | h6 <;> omega
    · rw [if_neg hc]
      rcases h with ⟨h1, h2⟩ | ⟨h1, h2, h3, h4⟩
      · refine .inl ⟨h1, fun j hj0 hj hq => ?_⟩
        by_cases hx : j = x
        · subst hx; exact hc ⟨hq.1, hq.2, .inl h1⟩
        · exact h2 j hj0 (by omega) hq
      · refine .inr ⟨h1, by omega, h3, fun j hj0 hj hq => ?_⟩
        by_cases hx : j = x
        · subst hx
          have h7 : ¬ mRank s j < mRank s best := fun h8 => hc ⟨hq.1, hq.2, .inr h8⟩
          omega
        · exact h4 j hj0 (by omega) hq
theorem mNextS {s : Nat → Int} {l time r : Int} (h4 : 0 ≤ s 4) :
    (mNextD s l time r = -1 ∧ ∀ j, 0 ≤ j → j < s 4 → ¬ duQ s l time r j) ∨ (0 ≤ mNextD s l time r ∧ mNextD s l time r < s 4 ∧ duQ s l time r (mNextD s l time r) ∧ ∀ j, 0 ≤ j → j < s 4 → duQ s l time r j → mRank s (mNextD s l time r) ≤ mRank s j) := by
  have h := mNextI (s := s) (l := l) (time := time) (r := r) (s 4).toNat 0 (-1) (Int.le_refl _) (.inl ⟨rfl, fun j h1 h2 => by omega⟩)
  have e : (0 : Int) + ((s 4).toNat : Int) = s 4 := by omega
  rw [e] at h
  exact h
theorem mRank_blk {s : Nat → Int} {i : Int} (hi : 0 ≤ i) : mRank s i = bRank (blk s i.toNat) := by
  unfold mRank bRank
  rw [mAi_blk hi (by decide), mAi_blk hi (by decide), mAi_blk hi (by decide)]
  rfl
theorem airL_mem {s : Nat → Int} {i : Int} (h0 : 0 ≤ i) (h : i < s 4) : blk s i.toNat ∈ airL s := by
  unfold airL
  exact List.mem_map.mpr ⟨i.toNat, List.mem_range.mpr (by omega), rfl⟩
theorem airL_of {s : Nat → Int} {b : Nat → Int} (h : b ∈ airL s) : ∃ i : Int, 0 ≤ i ∧ i < s 4 ∧ b = blk s i.toNat := by
  obtain ⟨i, h1, h2⟩ := List.mem_map.mp h
  exact ⟨i, by omega, by have := List.mem_range.mp h1; omega, by rw [← h2]; rfl⟩
theorem sameOut_ai {l i w : Int} {s s' : Nat → Int} (h : sameOut l s s') (hl : 0 ≤ l ∧ l ≤ 5) (hi : 0 ≤ i) (hw : 0 ≤ w) : mAi s' i w = mAi s i w := by
  simp only [mAi]; exact h _ (by omega)
theorem sameOut_hd {l : Int} {s s' : Nat → Int} (h : sameOut l s s') (hl : 0 ≤ l ∧ l ≤ 5) {j : Nat} (hj : j < 16) : s' j = s j := h _ (by omega)
theorem airOK_same {l : Int} {s s' : Nat → Int} (h : sameOut l s s') (hl : 0 ≤ l ∧ l ≤ 5) (hA : airOK s) : airOK s' := by
  have e4 := sameOut_hd h hl (j := 4) (by decide)
  refine ⟨by rw [e4]; exact hA.1, by rw [e4]; exact hA.2.1, fun i h0 hi => ?_⟩
  rw [e4] at hi
  have h1 := hA.2.2 i h0 hi
  rw [sameOut_ai h hl h0 (by decide), sameOut_ai h hl h0 (by decide), sameOut_ai h hl h0 (by decide)]
  refine ⟨h1.1, h1.2.1, h1.2.2.1, fun h2 => ?_⟩
  have h3 := h1.2.2.2 h2
  rw [sameOut_co h hl h3.1 (by decide)]
  exact h3
def airDue (l time : Int) (C : List (Nat → Int)) : List (Nat → Int) := C.filter fun b => decide (b (5 + l).toNat = time)
section M6
variable {L : Nat} {u : Nat → Nat → Int} {a : Nat → Nat → Nat} {t : Nat × Nat × Nat} {s : Nat → Int}
theorem M_listens_loop {l time : Int} {off : Bool} {C : List (Nat → Int)} (hl : 0 ≤ l ∧ l ≤ 5) (hA : airOK s) (hC : ∀ b, b ∈ C ↔ b ∈ airL s) : ∀ (D pre : List (Nat → Int)) (r : Int) (s' : Nat → Int), sameOut l s s' → airDue l time C = pre ++ D → (∀ b ∈ pre, bRank b ≤ r) → (∀ b ∈ D, r < bRank b) → D.Pairwise (fun b c => bRank b < bRank c) →
    a_X 206 11 [a_r 1557, a_i l, a_i time, a_i (bi off), a_i (mNextD s' l time r)] [] (K0 L, upr u 1558 s', G a, t) = some (.inl none, (K0 L, upr u 1558 (D.foldl (mStep l off) s'), G a, t)) := by
  intro D
  induction D with
  | nil =>
    intro pre r s' hs hF hp hD hso
    have hA' := airOK_same hs hl hA
    rcases mNextS (s := s') (l := l) (time := time) (r := r) hA'.1 with ⟨h1, h2⟩ | ⟨h1, h2, h3, h4⟩
    · rw [h1]; rw [B_X11_listens_11]; simp
    · exfalso
      have e4 := sameOut_hd hs hl (j := 4) (by decide)
      have hm : blk s (mNextD s' l time r).toNat ∈ airDue l time C := by
        refine List.mem_filter.mpr ⟨(hC _).mpr (airL_mem h1 (by omega)), ?_⟩
        have h5 := h3.1
        rw [mAi_blk h1 (by omega), sameOut_blk hs hl] at h5
        simp [h5]
      rw [hF, List.append_nil] at hm
      have h6 := hp _ hm
      have h7 := h3.2
      rw [mRank_blk h1, sameOut_blk hs hl] at h7
      omega
  | cons b D ih =>
    intro pre r s' hs hF hp hD hso
    have hA' := airOK_same hs hl hA
    have e4 := sameOut_hd hs hl (j := 4) (by decide)
    have hbF : b ∈ airDue l time C := by rw [hF]; simp
    obtain ⟨hbC, hbd⟩ := List.mem_filter.mp hbF
    obtain ⟨j, hj0, hj, hbj⟩ := airL_of ((hC _).mp hbC)
    have hbd := of_decide_eq_true hbd
    have hrb := hD b (by simp)
    have hqj : duQ s' l time r j := by
      refine ⟨?_, ?_⟩
      · rw [mAi_blk hj0 (by omega), sameOut_blk hs hl, ← hbj]; exact hbd
      · rw [mRank_blk hj0, sameOut_blk hs hl, ← hbj]; exact hrb
    rcases mNextS (s := s') (l := l) (time := time) (r := r) hA'.1 with ⟨h1, h2⟩ | ⟨h1, h2, h3, h4⟩
    · exact absurd hqj (h2 j hj0 (by omega))
    · generalize hi : mNextD s' l time r = i at *
      have eb : blk s' i.toNat = b := by
        have hm : blk s i.toNat ∈ airDue l time C := by
          refine List.mem_filter.mpr ⟨(hC _).mpr (airL_mem h1 (by omega)), ?_⟩
          have h5 := h3.1
          rw [mAi_blk h1 (by omega), sameOut_blk hs hl] at h5
          simp [h5]
        rw [sameOut_blk hs hl]
        rw [hF] at hm
        have h7 := h3.2
        rw [mRank_blk h1, sameOut_blk hs hl] at h7
        have h8 := h4 j hj0 (by omega) hqj
        rw [mRank_blk h1, mRank_blk hj0, sameOut_blk hs hl, sameOut_blk hs hl, ← hbj] at h8
        rcases List.mem_append.mp hm with h9 | h9
        · have := hp _ h9; omega
        · rcases List.mem_cons.mp h9 with h10 | h10
          · exact h10
          · have := (List.pairwise_cons.mp hso).1 _ h10; omega
      obtain ⟨b1, b2, b3, b4⟩ := hA'.2.2 i h1 h2
      have g0 : mAi s' i 0 = b 0 := by rw [mAi_blk h1 (by decide), eb]; rfl
      have g1 : mAi s' i 1 = b 1 := by rw [mAi_blk h1 (by decide), eb]; rfl
      rw [g0, g1] at b4
      have hn : b 0 ≠ 1 → 1 ≤ b 1 ∧ b 1 ≤ 99 ∧ 0 ≤ mCo s' (b 1) 0 ∧ mCo s' (b 1) 0 < 12 := by
        intro hb1
        have := b4 (by omega)
        exact ⟨this.1, by omega, this.2⟩
      have hs2 : sameOut l s' (mStep l off s' b) := sameOut_step hl hn
      have hA2 := airOK_same hs2 hl hA'
      have q1 : mAi (mStep l off s' b) i 1 = mAi s' i 1 := sameOut_ai hs2 hl h1 (by decide)
      have q0 : mAi (mStep l off s' b) i 0 = mAi s' i 0 := sameOut_ai hs2 hl h1 (by decide)
      have q4 : mAi (mStep l off s' b) i 4 = mAi s' i 4 := sameOut_ai hs2 hl h1 (by decide)
      have hrk : mRank (mStep l off s' b) i = bRank b := by rw [mRank_blk h1, sameOut_blk hs2 hl, eb]
      have hi30 : 0 ≤ i ∧ i < 30 := ⟨h1, by have := hA'.2.1; omega⟩
      have step := ih (pre ++ [b]) (bRank b) (mStep l off s' b) (hs.trans hs2) (by rw [hF]; simp) (by
        intro c hc
        rcases List.mem_append.mp hc with h9 | h9
        · have := hp _ h9; omega
        · rw [List.mem_singleton.mp h9]; exact Int.le_refl _) (fun c hc => (List.pairwise_cons.mp hso).1 c hc) (List.pairwise_cons.mp hso).2
      rw [List.foldl_cons, ← step]
      have hrank : a_m 195 [a_r 1557, a_i i] (K0 L, upr u 1558 (mStep l off s' b), G a, t) = some (.inl (some (a_l (bRank b))), (K0 L, upr u 1558 (mStep l off s' b), G a, t)) := by
        rw [← hrk]
        have := M_rank (L := L) (u := upr u 1558 (mStep l off s' b)) (a := a) (t := t) hi30 (by rw [upr_f, q1]; exact b1) (by rw [upr_f, q0]; exact b2) (by rw [upr_f, q4]; exact b3)
        rw [upr_f] at this
        exact this
      have hnext := M_nextDue (L := L) (u := u) (a := a) (t := t) (time := time) (r := bRank b) hl hA2
      rw [B_X11_listens_11]
      cases off with
      | true =>
        have hg := M_grows (L := L) (u := upr u 1558 s') (a := a) (t := t) (l := l) (w := 14) hl (by decide)
        rw [upr_f, upm_upr] at hg
        have hst : up1 s' (436 + 19 * l + 14).toNat (wr (mLi s' l 14 + 1)) = mStep l true s' b := by simp [mStep]
        rw [hst] at hg
        simp (disch := first | assumption | omega | (simp only [upr_f, upr_eq]; first | assumption | omega)) only [B_X11_listens_0, B_X11_listens_9, B_X11_listens_38, B_X11_listens_28, B_X11_listens_47, B_X11_listens_50, Option.bind_some, back_v, Option.toList_some, Option.toList_none, List.cons_append, List.nil_append, Nat.reduceAdd, Int.reduceToNat, Int.reduceNeg, upm_eq, upm_r, upm_i, if_pos, if_neg, ite_self, true_or, or_true, true_and, and_true, false_or, or_false, false_and, and_false, wr_id, i10, i01, upr_f, upr_eq, upm_upr, upr_upr, lc_lt, lc_gt, lc_ge, lc_le, afit1, afit0, afitI, bifit, not_true_eq_false, not_false_eq_true, if_true, if_false, Bool.false_eq_true, reduceCtorEq, k1557, k1558, g1557_2, bi_t, hg, hrank, hnext]
      | false =>
        have hh := M_hears (L := L) (u := u) (a := a) (t := t) (s := s') hl hi30 (by rw [eb]; exact hn)
        rw [eb] at hh
        simp (disch := first | assumption | omega | (simp only [upr_f, upr_eq]; first | assumption | omega)) only [B_X11_listens_0, B_X11_listens_9, B_X11_listens_38, B_X11_listens_28, B_X11_listens_47, B_X11_listens_50, Option.bind_some, back_v, Option.toList_some, Option.toList_none, List.cons_append, List.nil_append, Nat.reduceAdd, Int.reduceToNat, Int.reduceNeg, upm_eq, upm_r, upm_i, if_pos, if_neg, ite_self, true_or, or_true, true_and, and_true, false_or, or_false, false_and, and_false, wr_id, i10, i01, upr_f, upr_eq, upm_upr, upr_upr, lc_lt, lc_gt, lc_ge, lc_le, afit1, afit0, afitI, bifit, not_true_eq_false, not_false_eq_true, if_true, if_false, Bool.false_eq_true, reduceCtorEq, k1557, k1558, g1557_2, bi_f, hh, hrank, hnext]
theorem M_listens {l time : Int} {off : Bool} {C : List (Nat → Int)} (hl : 0 ≤ l ∧ l ≤ 5) (hA : airOK s) (hC : ∀ b, b ∈ C ↔ b ∈ airL s) (hso : C.Pairwise (fun b c => bRank b < bRank c)) : a_m 206 [a_r 1557, a_i l, a_i time, a_i (bi off)] (K0 L, upr u 1558 s, G a, t) = some (.inl none, (K0 L, upr u 1558 ((airDue l time C).foldl (mStep l off) s), G a, t)) := by
  have := M_listens_loop (L := L) (u := u) (a := a) (t := t) (time := time) (off := off) hl hA hC (airDue l time C) [] (-1) s sameOut.refl rfl (by simp) (by
    intro b hb
    obtain ⟨i, h0, h1, h2⟩ := airL_of ((hC _).mp (List.mem_filter.mp hb).1)
    obtain ⟨b1, b2, b3, -⟩ := hA.2.2 i h0 h1
    have h5 := mRank_blk (s := s) h0
    rw [h2, ← h5]; unfold mRank; omega) (hso.filter _)
  simp (disch := first | assumption | omega | (simp only [upr_f, upr_eq]; first | assumption | omega)) only [E_X11_listens, B_X11_listens_0, B_X11_listens_9, B_X11_listens_38, B_X11_listens_28, B_X11_listens_47, B_X11_listens_50, Option.bind_some, back_v, Option.toList_some, Option.toList_none, List.cons_append, List.nil_append, Nat.reduceAdd, Int.reduceToNat, Int.reduceNeg, upm_eq, upm_r, upm_i, if_pos, if_neg, ite_self, true_or, or_true, true_and, and_true, false_or, or_false, false_and, and_false, wr_id, i10, i01, upr_f, upr_eq, upm_upr, upr_upr, lc_lt, lc_gt, lc_ge, lc_le, afit1, afit0, afitI, bifit, not_true_eq_false, not_false_eq_true, if_true, if_false, Bool.false_eq_true, reduceCtorEq, k1557, k1558, g1557_2, M_nextDue]
  exact this
end M6
