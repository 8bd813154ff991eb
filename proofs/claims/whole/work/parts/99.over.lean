/-! ===== what would be overtaken: one listener's hearing, by ticks and at once ===== -/
def stF (l : Int) (C : List (Nat → Int)) (time : Int) (s : Nat → Int) : Nat → Int := (airDue l time C).foldl (mStep l false) s
/-- as to what a listener drops, two states go alike -/
def simO (l h : Int) (s s' : Nat → Int) : Prop := (∀ k, 0 ≤ k → k < 12 → mOf s' l k 4 = mOf s l k 4) ∧ (∀ n, 1 ≤ n → n ≤ 99 → mCo s' n 0 = mCo s n 0) ∧ mLi s' l 12 = wr (mLi s l 12 - h)
theorem C_ver {s : Nat → Int} {l n k : Int} (hl : 0 ≤ l ∧ l ≤ 5) (hn : 1 ≤ n ∧ n ≤ 99) (hc : 0 ≤ mCo s n 0 ∧ mCo s n 0 < 12) (hk : 0 ≤ k ∧ k < 12) : mOf (mHearC s l n) l k 4 = if k = mCo s n 0 ∧ mOf s l (mCo s n 0) 4 < n then n else mOf s l k 4 := by
  have hB := sameOut_co (w := 0) (sameOut_B (s := s) (l := l) hl.1 hn) hl hn.1 (by decide)
  unfold mHearC
  rw [D_of hl hn hk (by decide) (by rw [hB]; exact hc), hB, B_of hl (by omega) hn ⟨by omega, by omega⟩ (by decide), B_of hl (by omega) hn hk (by decide), if_pos rfl]
theorem C_drp {s : Nat → Int} {l n : Int} (hl : 0 ≤ l ∧ l ≤ 5) (hn : 1 ≤ n ∧ n ≤ 99) (hc : 0 ≤ mCo s n 0 ∧ mCo s n 0 < 12) : mLi (mHearC s l n) l 12 = if mOf s l (mCo s n 0) 4 < n then mLi s l 12 else wr (mLi s l 12 + 1) := by
  have hB := sameOut_co (w := 0) (sameOut_B (s := s) (l := l) hl.1 hn) hl hn.1 (by decide)
  have h9 := tdiv32 hn
  unfold mHearC
  rw [D_li hl (by decide) (by rw [hB]; exact hc), hB, B_of hl (by omega) hn ⟨by omega, by omega⟩ (by decide), B_li hl.1 hn (by decide), if_neg (show ¬ (12 : Int) = 15 + n.tdiv 32 by omega), if_neg (show ¬ (12 : Int) = 11 by decide)]
  by_cases h : mOf s l (mCo s n 0) 4 < n
  · rw [if_neg (fun q => q.2 h), if_pos h]
  · rw [if_pos ⟨rfl, h⟩, if_neg h]
theorem mStepF {l : Int} {s b : Nat → Int} : mStep l false s b = if b 0 = 1 then mHearW s l b else mHearC s l (b 1) := by
  unfold mStep
  rw [if_neg (by decide)]
theorem sim_step {l h : Int} {s s' b : Nat → Int} (hl : 0 ≤ l ∧ l ≤ 5) (hn : b 0 ≠ 1 → 1 ≤ b 1 ∧ b 1 ≤ 99 ∧ 0 ≤ mCo s (b 1) 0 ∧ mCo s (b 1) 0 < 12) (hs : simO l h s s') : simO l h (mStep l false s b) (mStep l false s' b) := by
  obtain ⟨h1, h2, h3⟩ := hs
  have hn' : b 0 ≠ 1 → 1 ≤ b 1 ∧ b 1 ≤ 99 ∧ 0 ≤ mCo s' (b 1) 0 ∧ mCo s' (b 1) 0 < 12 := fun hb => by
    obtain ⟨a1, a2, a3, a4⟩ := hn hb
    rw [h2 _ a1 a2]
    exact ⟨a1, a2, a3, a4⟩
  have so := sameOut_step (off := false) hl hn
  have so' := sameOut_step (off := false) hl hn'
  refine ⟨fun k k0 k1 => ?_, fun n n1 n2 => by rw [sameOut_co so' hl n1 (by decide), sameOut_co so hl n1 (by decide), h2 n n1 n2], ?_⟩
  · rw [mStepF, mStepF]
    by_cases hb : b 0 = 1
    · rw [if_pos hb, if_pos hb, W_of hl ⟨k0, k1⟩ (by decide), W_of hl ⟨k0, k1⟩ (by decide), h1 k k0 k1]
    · obtain ⟨a1, a2, a3, a4⟩ := hn hb
      have a3' := (hn' hb).2.2
      rw [if_neg hb, if_neg hb, C_ver hl ⟨a1, a2⟩ ⟨a3, a4⟩ ⟨k0, k1⟩, C_ver hl ⟨a1, a2⟩ a3' ⟨k0, k1⟩, h2 _ a1 a2, h1 _ a3 a4, h1 k k0 k1]
  · rw [mStepF, mStepF]
    by_cases hb : b 0 = 1
    · rw [if_pos hb, if_pos hb, W_li hl (by decide), W_li hl (by decide), if_neg (by decide), if_neg (by decide), if_neg (by decide), if_neg (by decide), if_neg (by decide), if_neg (by decide)]
      exact h3
    · obtain ⟨a1, a2, a3, a4⟩ := hn hb
      have a3' := (hn' hb).2.2
      rw [if_neg hb, if_neg hb, C_drp hl ⟨a1, a2⟩ ⟨a3, a4⟩, C_drp hl ⟨a1, a2⟩ a3', h2 _ a1 a2, h1 _ a3 a4]
      by_cases hq : mOf s l (mCo s (b 1) 0) 4 < b 1
      · rw [if_pos hq, if_pos hq]; exact h3
      · rw [if_neg hq, if_neg hq, h3]
        unfold wr
        omega
/-- all of these may be heard in this state -/
def bOK (s : Nat → Int) (D : List (Nat → Int)) : Prop := ∀ b ∈ D, b 0 ≠ 1 → 1 ≤ b 1 ∧ b 1 ≤ 99 ∧ 0 ≤ mCo s (b 1) 0 ∧ mCo s (b 1) 0 < 12
theorem bOK_of {s : Nat → Int} {D : List (Nat → Int)} (hA : airOK s) (hD : ∀ b ∈ D, b ∈ airL s) : bOK s D := by
  intro b hb hb1
  obtain ⟨i, i0, i4, hbi⟩ := airL_of (hD b hb)
  obtain ⟨b1, b2, b3, b4⟩ := hA.2.2 i i0 i4
  have g0 : mAi s i 0 = b 0 := by rw [mAi_blk i0 (by decide), ← hbi]; rfl
  have g1 : mAi s i 1 = b 1 := by rw [mAi_blk i0 (by decide), ← hbi]; rfl
  rw [g0, g1] at b4
  have := b4 (by omega)
  exact ⟨this.1, by omega, this.2⟩
theorem sim_fold {l h : Int} (hl : 0 ≤ l ∧ l ≤ 5) : ∀ (D : List (Nat → Int)) (s s' : Nat → Int), bOK s D → simO l h s s' → simO l h (D.foldl (mStep l false) s) (D.foldl (mStep l false) s') ∧ sameOut l s (D.foldl (mStep l false) s) := by
  intro D
  induction D with
  | nil => intro s s' _ hs; exact ⟨hs, sameOut.refl⟩
  | cons b D ih =>
    intro s s' hD hs
    have h1 := hD b (by simp)
    have so := sameOut_step (off := false) hl h1
    have h2 := ih (mStep l false s b) (mStep l false s' b) (fun c hc hc1 => by
      obtain ⟨a1, a2, a3⟩ := hD c (by simp [hc]) hc1
      rw [sameOut_co so hl a1 (by decide)]
      exact ⟨a1, a2, a3⟩) (sim_step hl h1 hs)
    exact ⟨h2.1, so.trans h2.2⟩
theorem sim_out {l h x : Int} {s s1 s2 : Nat → Int} (hl : 0 ≤ l ∧ l ≤ 5) (hx : 0 ≤ x ∧ x ≤ 5) (hne : l ≠ x) (ho : sameOut x s1 s2) (hs : simO l h s s1) : simO l h s s2 := by
  obtain ⟨h1, h2, h3⟩ := hs
  refine ⟨fun k k0 k1 => by rw [of_out ho hx ⟨by omega, hl.2⟩ hne ⟨k0, k1⟩ (by decide)]; exact h1 k k0 k1, fun n n1 n2 => by rw [sameOut_co ho hx n1 (by decide)]; exact h2 n n1 n2, by rw [li_out ho hx hl hne (by decide)]; exact h3⟩
theorem sim_hear {c l h T : Int} {C : List (Nat → Int)} (hl : 0 ≤ l ∧ l ≤ 5) : ∀ (d : Nat) (x : Int) (s s1 : Nat → Int), 0 ≤ x → x + d ≤ 6 → l < x + d → MI c s1 → (∀ b, b ∈ C → b ∈ airL s1) → s1 1 = T → mLi s1 l 1 = 0 → bOK s C → simO l h s s1 →
    simO l h (if x ≤ l then stF l C T s else s) (itA d x s1 (mHearF C)) ∧ mLi (itA d x s1 (mHearF C)) l 1 = 0 := by
  intro d
  induction d with
  | zero => intro x s s1 x0 hx hlx hM hC hT hg hb hs; rw [if_neg (by omega)]; exact ⟨hs, hg⟩
  | succ d ih =>
    intro x s s1 x0 hx hlx hM hC hT hg hb hs
    have hx5 : 0 ≤ x ∧ x ≤ 5 := by omega
    have hsm := hearF_same (C := C) hx5 hM.2.2.2.2.2.1 hC
    have hM' := MI_same hM hsm hx5
    have hC' : ∀ b, b ∈ C → b ∈ airL (mHearF C x s1) := fun b hb => by rw [airL_same hsm hx5]; exact hC b hb
    have hT' : mHearF C x s1 1 = T := by rw [sameOut_hd hsm hx5 (by decide)]; exact hT
    rw [itA]
    by_cases hxl : x = l
    · subst hxl
      have hoff : mOff s1 x (s1 1) = false := by unfold mOff; rw [hg]; rfl
      have e : mHearF C x s1 = (airDue x T C).foldl (mStep x false) s1 := by unfold mHearF; rw [hoff, hT]
      have hbD : bOK s (airDue x T C) := fun b hb' => hb b (List.mem_filter.mp hb').1
      obtain ⟨f1, f2⟩ := sim_fold hx5 (airDue x T C) s s1 hbD hs
      have hg' : mLi (mHearF C x s1) x 1 = 0 := by rw [li_keep hsm hx5 (by decide)]; exact hg
      have hb2 : bOK (stF x C T s) C := fun b hb' hb1 => by
        obtain ⟨a1, a2, a3⟩ := hb b hb' hb1
        have : mCo (stF x C T s) (b 1) 0 = mCo s (b 1) 0 := sameOut_co f2 hx5 a1 (by decide)
        rw [this]
        exact ⟨a1, a2, a3⟩
      by_cases hd : d = 0
      · subst hd
        rw [if_pos (Int.le_refl _)]
        exact ⟨by rw [itA, e]; exact f1, by rw [itA]; exact hg'⟩
      · have hh := ih (x + 1) (stF x C T s) (mHearF C x s1) (by omega) (by omega) (by omega) hM' hC' hT' hg' hb2 (by rw [e]; exact f1)
        rw [if_neg (by omega)] at hh
        rw [if_pos (Int.le_refl _)]
        exact hh
    · have hg' : mLi (mHearF C x s1) l 1 = 0 := by rw [li_out hsm hx5 hl (fun q => hxl q.symm) (by decide)]; exact hg
      have hs' := sim_out hl hx5 (fun q => hxl q.symm) hsm hs
      by_cases hlt : l < x + 1 + d
      · have hh := ih (x + 1) s (mHearF C x s1) (by omega) (by omega) hlt hM' hC' hT' hg' hb hs'
        rcases Int.lt_or_lt_of_ne hxl with h | h
        · rw [if_pos (by omega)] at hh ⊢; exact hh
        · rw [if_neg (by omega)] at hh ⊢; exact hh
      · omega
theorem srt_air {s s' : Nat → Int} (h : airL s' = airL s) : srt s' = srt s := by unfold srt; rw [h]
theorem sim_tick {c l h : Int} {s s' : Nat → Int} (hM : MI c s') (hc : c ≤ 1000) (h1 : s' 1 ≤ 15000) (hl : 0 ≤ l ∧ l < s' 3) (h0 : s' 0 = 0) (hg : mLi s' l 1 = 0) (hb : bOK s (srt s')) (hs : simO l h s s') :
    simO l h (stF l (srt s') (s' 1 + 1) s) (mTick s') ∧ mLi (mTick s') l 1 = 0 ∧ (∀ T, s' 1 + 1 < T → airDue l T (srt (mTick s')) = airDue l T (srt s')) := by
  have h3 := hM.2.2.2.1
  have hl5 : 0 ≤ l ∧ l ≤ 5 := by omega
  have et : mT2 s' = mT1 s' := by unfold mT2; rw [if_neg (by omega)]
  have hM1 : MI c (mT1 s') := by rw [← et]; exact MI_T2 hM hc h1
  have ea : airL (mT1 s') = airL s' := by
    unfold airL mT1
    rw [up1_ne (by decide)]
    exact List.map_congr_left fun i _ => blk_ne (fun j hj => up1_ne (by omega)) i
  have es : srt (mT1 s') = srt s' := srt_air ea
  have e3 : mT1 s' 3 = s' 3 := up1_ne (by decide)
  have e1 : mT1 s' 1 = s' 1 + 1 := by unfold mT1; exact up1_eq
  have hmem : ∀ b, b ∈ srt s' → b ∈ airL (mT1 s') := fun b hb => by rw [ea]; exact srt_perm.mem_iff.mp hb
  have hs1 : simO l h s (mT1 s') := by
    obtain ⟨q1, q2, q3⟩ := hs
    refine ⟨fun k k0 k1 => ?_, fun n n1 n2 => ?_, ?_⟩
    · rw [← q1 k k0 k1]; unfold mT1 mOf; rw [up1_ne (by omega)]
    · rw [← q2 n n1 n2]; unfold mT1 mCo; rw [up1_ne (by omega)]
    · rw [← q3]; unfold mT1 mLi; rw [up1_ne (by omega)]
  have hg1 : mLi (mT1 s') l 1 = 0 := by rw [← hg]; unfold mT1 mLi; rw [up1_ne (by omega)]
  obtain ⟨k1, k2⟩ := sim_hear (c := c) (T := s' 1 + 1) (C := srt s') hl5 (s' 3).toNat 0 s (mT1 s') (by decide) (by omega) (by omega) hM1 hmem e1 hg1 hb hs1
  rw [if_pos hl.1] at k1
  obtain ⟨m1, m2, m3, m4⟩ := hearAll_keep (C := srt s') (s' 3).toNat 0 (mT1 s') (by decide) (by omega) hM1 hmem
  have em : mTick s' = mClears (itA (s' 3).toNat 0 (mT1 s') (mHearF (srt s'))) := by unfold mTick mHearAll; rw [et, es, e3]
  have hr3 := m3 3 (by decide)
  have hr1 := m3 1 (by decide)
  generalize itA (s' 3).toNat 0 (mT1 s') (mHearF (srt s')) = X at *
  rw [em]
  refine ⟨?_, ?_, fun T hT => ?_⟩
  · obtain ⟨q1, q2, q3⟩ := k1
    refine ⟨fun k k0 k1 => ?_, fun n n1 n2 => ?_, ?_⟩
    · rw [← q1 k k0 k1]; unfold mOf; rw [clears_lo (by omega) (by omega)]
    · rw [← q2 n n1 n2]; unfold mCo; rw [clears_lo (by omega) (by omega)]
    · rw [← q3]; unfold mLi; rw [clears_lo (by omega) (by omega)]
  · rw [← k2]; unfold mLi; rw [clears_lo (by omega) (by omega)]
  · have hX4 := m1.2.2.2.2.2.1
    have hX3 := m1.2.2.2.1
    have hcl := (airL_clears (s := X) ⟨hX4.1, hX4.2.1⟩ (by omega)).1
    have esX : srt X = srt s' := srt_air (m4.trans ea)
    have hsc : (srt X).filter (fun b => decide (bStill (X 3).toNat (X 1) b ≠ 0)) = srt (mClears X) := srt_uniq (MI_clears m1) (by rw [hcl]; exact srt_perm.filter _) ((srt_lt m1).filter _)
    rw [← hsc, esX]
    unfold airDue
    rw [List.filter_filter]
    refine List.filter_congr fun b hb => ?_
    rw [Bool.eq_iff_iff]
    simp only [Bool.and_eq_true, decide_eq_true_eq]
    constructor
    · exact fun q => q.1
    · intro q
      refine ⟨q, (bitW_ne (by omega)).mpr ⟨l, hl.1, by omega, ?_⟩⟩
      rw [decide_eq_true_eq, q]
      omega
theorem itA_more {F : Int → (Nat → Int) → (Nat → Int)} {e : Nat} : ∀ (d : Nat) (x : Int) (s : Nat → Int), (∀ i y, x + d ≤ i → F i y = y) → itA (d + e) x s F = itA d x s F := by
  have hz : ∀ (e : Nat) (x : Int) (s : Nat → Int), (∀ i y, x ≤ i → F i y = y) → itA e x s F = s := by
    intro e
    induction e with
    | zero => intro x s _; rfl
    | succ e ih => intro x s h; rw [itA, h x s (Int.le_refl _), ih (x + 1) s (fun i y hi => h i y (by omega))]
  intro d
  induction d with
  | zero => intro x s h; rw [Nat.zero_add, hz e x s (fun i y hi => h i y (by omega))]; rfl
  | succ d ih => intro x s h; rw [Nat.add_right_comm, itA, itA, ih (x + 1) _ (fun i y hi => h i y (by omega))]
theorem sim_ticks {c l h : Int} {C0 : List (Nat → Int)} (hc : c ≤ 1000) : ∀ (d : Nat) (s s' : Nat → Int), MI c s' → s' 1 + d ≤ 15000 → 0 ≤ l ∧ l < s' 3 → s' 0 = 0 → mLi s' l 1 = 0 → bOK s C0 → (∀ b ∈ srt s', b ∈ C0) → (∀ T, s' 1 < T → airDue l T (srt s') = airDue l T C0) → simO l h s s' →
    simO l h (itA d (s' 1 + 1) s (stF l C0)) (mTicks d s') := by
  intro d
  induction d with
  | zero => intro s s' hM h1 hl h0 hg hb hm hD hs; exact hs
  | succ d ih =>
    intro s s' hM h1 hl h0 hg hb hm hD hs
    have hl5 : 0 ≤ l ∧ l ≤ 5 := by have := hM.2.2.2.1; omega
    obtain ⟨t1, t2, t3⟩ := sim_tick hM hc (by omega) hl h0 hg (fun b hb' => hb b (hm b hb')) hs
    obtain ⟨k1, k2, k3, k4, k5, k6⟩ := MI_tick hM hc (by omega)
    have hst : stF l (srt s') (s' 1 + 1) s = stF l C0 (s' 1 + 1) s := by unfold stF; rw [hD _ (by omega)]
    rw [hst] at t1
    have hb2 : bOK (stF l C0 (s' 1 + 1) s) C0 := fun b hb' hb1 => by
      obtain ⟨a1, a2, a3⟩ := hb b hb' hb1
      have so := (sim_fold (h := h) hl5 (airDue l (s' 1 + 1) C0) s s' (fun b hb' => hb b (List.mem_filter.mp hb').1) hs).2
      have : mCo (stF l C0 (s' 1 + 1) s) (b 1) 0 = mCo s (b 1) 0 := sameOut_co so hl5 a1 (by decide)
      rw [this]
      exact ⟨a1, a2, a3⟩
    have hm2 : ∀ b ∈ srt (mTick s'), b ∈ C0 := by
      intro b hb'
      -- what is still on the air is still to come for somebody, and was on it
      have hM2 := k1
      have ht2 : mT2 s' = mT1 s' := by unfold mT2; rw [if_neg (by omega)]
      have hM1 : MI c (mT1 s') := by rw [← ht2]; exact MI_T2 hM hc (by omega)
      have ea : airL (mT1 s') = airL s' := by
        unfold airL mT1
        rw [up1_ne (by decide)]
        exact List.map_congr_left fun i _ => blk_ne (fun j hj => up1_ne (by omega)) i
      have hmem : ∀ b, b ∈ srt s' → b ∈ airL (mT1 s') := fun b hb => by rw [ea]; exact srt_perm.mem_iff.mp hb
      have h3 := hM.2.2.2.1
      obtain ⟨m1, m2, m3, m4⟩ := hearAll_keep (C := srt s') (s' 3).toNat 0 (mT1 s') (by decide) (by omega) hM1 hmem
      have em : mTick s' = mClears (itA (s' 3).toNat 0 (mT1 s') (mHearF (srt s'))) := by
        unfold mTick mHearAll
        rw [ht2, srt_air ea, show mT1 s' 3 = s' 3 from up1_ne (by decide)]
      have hX4 := m1.2.2.2.2.2.1
      have hX3 := m1.2.2.2.1
      have hcl := (airL_clears ⟨hX4.1, hX4.2.1⟩ ⟨by omega, hX3.2⟩).1
      have hbm := srt_perm.mem_iff.mp hb'
      rw [em, hcl] at hbm
      have hbm2 := (List.mem_filter.mp hbm).1
      rw [m4, ea] at hbm2
      exact hm b (srt_perm.mem_iff.mpr hbm2)
    have hh := ih (stF l C0 (s' 1 + 1) s) (mTick s') k1 (by omega) (by rw [k6]; exact hl) (by rw [k4]; exact h0) t2 hb2 hm2 (fun T hT => by rw [t3 T (by omega), hD T (by omega)]) t1
    rw [k3] at hh
    exact hh
