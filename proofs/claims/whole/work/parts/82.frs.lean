/-! ===== nobody has heard a number that is still to come: a tick keeps this ===== -/
theorem frs_congr {s s' : Nat → Int} (h : frs s) (h0 : 0 ≤ s 2) (h2 : s' 2 = s 2) (h3 : s' 3 = s 3) (hl : ∀ l w, 0 ≤ l → l < s 3 → 15 ≤ w → w < 19 → mLi s' l w = mLi s l w) : frs s' := by
  intro l n l0 l1 n0 n1
  rw [h3] at l1
  rw [h2] at n0
  have := tdiv32 (n := n) ⟨by omega, n1⟩
  rw [hl l _ l0 l1 (by omega) (by omega)]
  exact h l n l0 l1 n0 n1
theorem D_hi {s : Nat → Int} {l n w : Int} (hl : 0 ≤ l ∧ l ≤ 5) (hc : 0 ≤ mCo s n 0 ∧ mCo s n 0 < 12) (hw : 15 ≤ w ∧ w < 19) : mLi (mHearD s l n) l w = mLi s l w := by
  unfold mHearD
  split
  · rw [mLi, up1_ne (by omega), cpy_out (by omega)]; rfl
  · rw [mLi, up1_ne (by omega)]; rfl
theorem B_hi {s : Nat → Int} {l n w : Int} (hl : 0 ≤ l ∧ l ≤ 5) (hn : 1 ≤ n ∧ n ≤ 99) (hw : 15 ≤ w ∧ w < 19) : mLi (mHearB s l n) l w = if w = 15 + n.tdiv 32 then zor (mLi s l w) (zshl 1 (n.tmod 32)) else mLi s l w := by
  have := tdiv32 hn
  have e : mLi (mHearN s l n) l w = mLi s l w := by rw [mLi]; unfold mHearN; rw [up1_ne (by omega)]; rfl
  unfold mHearB
  by_cases h : w = 15 + n.tdiv 32
  · rw [if_pos h, mLi, ← h, up1_eq, e]
  · rw [if_neg h, mLi, up1_ne (by omega)]; exact e
theorem frs_step {s b : Nat → Int} {l : Int} {off : Bool} (hf : frs s) (h0 : 0 ≤ s 2) (h3 : s 3 ≤ 6) (hl : 0 ≤ l ∧ l < s 3) (hn : b 0 ≠ 1 → 1 ≤ b 1 ∧ b 1 ≤ 99 ∧ 0 ≤ mCo s (b 1) 0 ∧ mCo s (b 1) 0 < 12) (h2 : b 1 ≤ s 2) : frs (mStep l off s b) := by
  have hl5 : 0 ≤ l ∧ l ≤ 5 := by omega
  have hso := sameOut_step (off := off) hl5 hn
  have e2 : mStep l off s b 2 = s 2 := sameOut_hd hso hl5 (by decide)
  have e3 : mStep l off s b 3 = s 3 := sameOut_hd hso hl5 (by decide)
  have eo : ∀ m w, m ≠ l → 0 ≤ m → m ≤ 5 → 15 ≤ w → w < 19 → mLi (mStep l off s b) m w = mLi s m w := by
    intro m w hm m0 m1 w0 w1
    rw [mLi, hso _ (by omega)]; rfl
  by_cases hb : off = false ∧ b 0 ≠ 1
  · obtain ⟨b1, b2, b3, b4⟩ := hn hb.2
    intro m n m0 m1 n0 n1
    rw [e3] at m1
    rw [e2] at n0
    have hd := tdiv32 (n := n) ⟨by omega, n1⟩
    have hd2 := tdiv32 (n := b 1) ⟨b1, b2⟩
    by_cases hm : m = l
    · subst hm
      have eq : mStep m off s b = mHearC s m (b 1) := by
        unfold mStep; rw [if_neg (by rw [hb.1]; decide), if_neg hb.2]
      have hBs := sameOut_co (w := 0) (sameOut_B (s := s) (l := m) m0 ⟨b1, b2⟩) hl5 b1 (by decide)
      rw [eq]
      unfold mHearC
      rw [D_hi hl5 (by rw [hBs]; exact ⟨b3, b4⟩) ⟨by omega, by omega⟩, B_hi hl5 ⟨b1, b2⟩ ⟨by omega, by omega⟩]
      have hold := hf m n m0 m1 n0 n1
      by_cases hw : 15 + n.tdiv 32 = 15 + (b 1).tdiv 32
      · have t1 := Int.tmod_nonneg (a := n) 32 (by omega)
        have t2 := Int.tmod_lt_of_pos n (show (0 : Int) < 32 by decide)
        have t3 := Int.tmod_nonneg (a := b 1) 32 (by omega)
        have t4 := Int.tmod_lt_of_pos (b 1) (show (0 : Int) < 32 by decide)
        have u1 := Int.mul_tdiv_add_tmod n 32
        have u2 := Int.mul_tdiv_add_tmod (b 1) 32
        rw [if_pos hw, tb_or ⟨t3, t4⟩ ⟨t1, t2⟩, hold, Bool.or_false]
        refine decide_eq_false (fun h => ?_)
        omega
      · rw [if_neg hw]; exact hold
    · rw [eo m _ hm m0 (by omega) (by omega) (by omega)]
      exact hf m n m0 m1 n0 n1
  · refine frs_congr hf h0 e2 e3 (fun m w m0 m1 w0 w1 => ?_)
    by_cases hm : m = l
    · subst hm
      unfold mStep
      by_cases ho : off = true
      · rw [if_pos ho, mLi, up1_ne (by omega)]; rfl
      · have hb1 : b 0 = 1 := by
          refine Classical.byContradiction fun h => hb ⟨?_, h⟩
          cases off with
          | false => rfl
          | true => exact absurd rfl ho
        rw [if_neg ho, if_pos hb1, W_li hl5 (by omega), if_neg (by omega), if_neg (by omega), if_neg (by omega)]
    · exact eo m w hm m0 (by omega) w0 w1
theorem frs_fold {l : Int} {off : Bool} : ∀ (D : List (Nat → Int)) (s : Nat → Int), frs s → 0 ≤ s 2 → s 2 ≤ 99 → s 3 ≤ 6 → 0 ≤ l ∧ l < s 3 → airOK s → (∀ b ∈ D, b ∈ airL s ∧ b 1 ≤ s 2) → frs (D.foldl (mStep l off) s) := by
  intro D
  induction D with
  | nil => intro s hf _ _ _ _ _ _; exact hf
  | cons b D ih =>
    intro s hf h0 h99 h3 hl hA hD
    have hl5 : 0 ≤ l ∧ l ≤ 5 := by omega
    obtain ⟨hbm, hb2⟩ := hD b (by simp)
    obtain ⟨i, i0, i4, hb⟩ := airL_of hbm
    have hn : b 0 ≠ 1 → 1 ≤ b 1 ∧ b 1 ≤ 99 ∧ 0 ≤ mCo s (b 1) 0 ∧ mCo s (b 1) 0 < 12 := by
      intro hb1
      obtain ⟨b1, b2, b3, b4⟩ := hA.2.2 i i0 i4
      have g0 : mAi s i 0 = b 0 := by rw [mAi_blk i0 (by decide), ← hb]; rfl
      have g1 : mAi s i 1 = b 1 := by rw [mAi_blk i0 (by decide), ← hb]; rfl
      rw [g0, g1] at b4
      have := b4 (by omega)
      exact ⟨this.1, by omega, this.2⟩
    have hstep := sameOut_step (off := off) hl5 hn
    have e2 : mStep l off s b 2 = s 2 := sameOut_hd hstep hl5 (by decide)
    have e3 : mStep l off s b 3 = s 3 := sameOut_hd hstep hl5 (by decide)
    exact ih _ (frs_step hf h0 h3 hl hn hb2) (by omega) (by omega) (by omega) (by omega) (airOK_same hstep hl5 hA) (fun c hc => by
      rw [airL_same hstep hl5, e2]; exact hD c (by simp [hc]))
theorem frs_all {c : Int} {C : List (Nat → Int)} : ∀ (d : Nat) (x : Int) (s : Nat → Int), 0 ≤ x → x + d = s 3 → MI c s → frs s → (∀ b, b ∈ C → b ∈ airL s ∧ b 1 ≤ s 2) → frs (itA d x s (mHearF C)) := by
  intro d
  induction d with
  | zero => intro x s _ _ _ hf _; exact hf
  | succ d ih =>
    intro x s x0 hx hM hf hC
    have hA := hM.2.2.2.2.2.1
    have h2 := hM.2.2.1
    have h3 := hM.2.2.2.1
    have hx5 : 0 ≤ x ∧ x ≤ 5 := by omega
    have hsm := hearF_same (C := C) hx5 hA (fun b hb => (hC b hb).1)
    have e2 : mHearF C x s 2 = s 2 := sameOut_hd hsm hx5 (by decide)
    have e3 : mHearF C x s 3 = s 3 := sameOut_hd hsm hx5 (by decide)
    rw [itA]
    refine ih (x + 1) _ (by omega) (by omega) (MI_same hM hsm hx5) ?_ (fun b hb => ?_)
    · exact frs_fold _ s hf h2.1 h2.2 h3.2 ⟨x0, by omega⟩ hA (fun b hb => hC b (List.mem_filter.mp hb).1)
    · rw [airL_same hsm hx5, e2]; exact hC b hb
theorem frs_tick {c : Int} {s : Nat → Int} (hM : MI c s) (hc : c ≤ 1000) (h1 : s 1 ≤ 15000) (hf : frs s) (hN : ∀ b ∈ airL s, b 1 ≤ s 2) : frs (mTick s) := by
  have hM2 := MI_T2 hM hc h1
  have h2 := hM.2.2.1
  have h3 := hM.2.2.2.1
  have t2 : mT2 s 2 = s 2 ∧ mT2 s 3 = s 3 ∧ ∀ j : Nat, 16 ≤ j → j < 1150 → mT2 s j = s j := by
    unfold mT2
    split
    · split
      · refine ⟨?_, ?_, fun j j0 j1 => ?_⟩
        · rw [airs_hd (by decide) (by decide)]; unfold mT1; rw [up1_ne (by decide)]
        · rw [airs_hd (by decide) (by decide)]; unfold mT1; rw [up1_ne (by decide)]
        · rw [airs_hd j1 (by omega)]; unfold mT1; rw [up1_ne (by omega)]
      · refine ⟨?_, ?_, fun j j0 j1 => ?_⟩
        · rw [up1_ne (by decide)]; unfold mT1; rw [up1_ne (by decide)]
        · rw [up1_ne (by decide)]; unfold mT1; rw [up1_ne (by decide)]
        · rw [up1_ne (by omega)]; unfold mT1; rw [up1_ne (by omega)]
    · refine ⟨?_, ?_, fun j j0 j1 => ?_⟩
      · unfold mT1; rw [up1_ne (by decide)]
      · unfold mT1; rw [up1_ne (by decide)]
      · unfold mT1; rw [up1_ne (by omega)]
  have hA1 : ∀ i x : Int, 0 ≤ i → 0 ≤ x → mAi (mT1 s) i x = mAi s i x := fun i x i0 x0 => by rw [mAi]; unfold mT1; rw [up1_ne (by omega)]; rfl
  have hN2 : ∀ b ∈ airL (mT2 s), b 1 ≤ mT2 s 2 := by
    intro b hb
    obtain ⟨i, i0, i4, hbi⟩ := airL_of hb
    have g1 : b 1 = mAi (mT2 s) i 1 := by rw [mAi_blk i0 (by decide), ← hbi]; rfl
    have hold : i < s 4 → mAi s i 1 ≤ s 2 := fun h => by
      have := hN _ (airL_mem i0 h)
      rwa [show blk s i.toNat 1 = mAi s i 1 from (mAi_blk (w := 1) i0 (by decide)).symm] at this
    rw [g1, t2.1]
    have m4 : mT1 s 4 = s 4 := by unfold mT1; rw [up1_ne (by decide)]
    have m2 : mT1 s 2 = s 2 := by unfold mT1; rw [up1_ne (by decide)]
    have hA0 := hM.2.2.2.2.2.1.1
    revert i4
    unfold mT2
    split
    · split
      · intro i4
        rw [airs_4, m4] at i4
        by_cases hi : i < s 4
        · rw [airs_old i0 (by rw [m4]; exact hi) (by decide), hA1 i 1 i0 (by decide)]; exact hold hi
        · have : i = mT1 s 4 := by rw [m4]; omega
          rw [this, airs_new (by rw [m4]; exact hA0) (by decide)]
          show airC (mT1 s) 1 (s 2) 5 1 ≤ s 2
          unfold airC
          rw [if_neg (by decide), if_pos rfl]
          exact Int.le_refl _
      · intro i4
        rw [up1_ne (by decide), m4] at i4
        rw [mAi, up1_ne (by omega)]
        have := hA1 i 1 i0 (by decide)
        unfold mAi at this
        rw [this]
        exact hold i4
    · intro i4
      rw [m4] at i4
      rw [hA1 i 1 i0 (by decide)]; exact hold i4
  have hf2 : frs (mT2 s) := frs_congr hf h2.1 t2.1 t2.2.1 (fun l w l0 l1 w0 w1 => by rw [mLi, t2.2.2 _ (by omega) (by omega)]; rfl)
  have hf3 := frs_all (C := srt (mT2 s)) (mT2 s 3).toNat 0 (mT2 s) (by decide) (by rw [t2.2.1]; omega) hM2 hf2 (fun b hb => ⟨srt_perm.mem_iff.mp hb, hN2 b (srt_perm.mem_iff.mp hb)⟩)
  obtain ⟨g1, g2, g3, g4⟩ := hearAll_keep (C := srt (mT2 s)) (mT2 s 3).toNat 0 (mT2 s) (by decide) (by rw [t2.2.1]; omega) hM2 (fun b hb => srt_perm.mem_iff.mp hb)
  have k2 : mHearAll (srt (mT2 s)) (mT2 s) 2 = s 2 := (g3 2 (by decide)).trans t2.1
  have k3 : mHearAll (srt (mT2 s)) (mT2 s) 3 = s 3 := (g3 3 (by decide)).trans t2.2.1
  unfold mTick
  refine frs_congr hf3 (by rw [show itA (mT2 s 3).toNat 0 (mT2 s) (mHearF (srt (mT2 s))) 2 = s 2 from k2]; exact h2.1) (clears_lo (by decide) (by decide)) (clears_lo (by decide) (by decide)) (fun l w l0 l1 w0 w1 => ?_)
  rw [show itA (mT2 s 3).toNat 0 (mT2 s) (mHearF (srt (mT2 s))) 3 = s 3 from k3] at l1
  rw [mLi, clears_lo (by omega) (by omega)]; rfl
/-- what is on the air was published -/
theorem rel_air {v : Nat → Nat → Int} {b : Nat → Nat} {s : Nat → Int} (h : Rel v b s) : ∀ x ∈ airL s, x 1 ≤ s 2 := by
  obtain ⟨C, r1, r2, r3, r4, r5, r6, q1, q2, q3, q4, q5⟩ := h
  intro x hx
  obtain ⟨p, hp, hxp⟩ := List.mem_iff_getElem.mp (q3.mem_iff.mpr hx)
  have := (q5 p hp).2.2.2.2.2.2.2.2.2.1.2
  rw [← hxp]; exact this
