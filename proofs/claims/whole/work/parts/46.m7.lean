/-! ===== the reference: a tick whole, and what it keeps ===== -/
def airQ (s : Nat → Int) : Prop := ∀ i, 0 ≤ i → i < s 4 → mAi s i 4 < s 7 ∧ ∀ j, i < j → j < s 4 → mAi s i 4 < mAi s j 4
def lisOK (s : Nat → Int) : Prop := ∀ l, 0 ≤ l → l < s 3 → (0 ≤ mLi s l 0 ∧ mLi s l 0 ≤ 9) ∧ (0 ≤ mLi s l 1 ∧ mLi s l 1 ≤ 4)
def MI (c : Int) (s : Nat → Int) : Prop :=
  (0 ≤ s 0 ∧ s 0 ≤ 99) ∧ 0 ≤ s 1 ∧ (0 ≤ s 2 ∧ s 2 ≤ 99) ∧ (1 ≤ s 3 ∧ s 3 ≤ 6) ∧ (0 ≤ s 7 ∧ s 7 ≤ s 1 + c) ∧ airOK s ∧ airQ s ∧ lisOK s
def srt (s : Nat → Int) : List (Nat → Int) := (airL s).mergeSort fun b c => decide (bRank b ≤ bRank c)
def mHearF (C : List (Nat → Int)) (l : Int) (s : Nat → Int) : Nat → Int := (airDue l (s 1) C).foldl (mStep l (mOff s l (s 1))) s
def mHearAll (C : List (Nat → Int)) (s : Nat → Int) : Nat → Int := itA (s 3).toNat 0 s (mHearF C)
def mT1 (s : Nat → Int) : Nat → Int := up1 s 1 (s 1 + 1)
def mT2 (s : Nat → Int) : Nat → Int := if 0 < s 0 ∧ (s 1 + 1).tmod (s 0) = 0 then (if s 4 < 30 then mAirs (mT1 s) 1 (s 2) 5 else up1 (mT1 s) 6 (wr (s 6 + 1))) else mT1 s
def mTick (s : Nat → Int) : Nat → Int := mClears (mHearAll (srt (mT2 s)) (mT2 s))
theorem blk_ne {s s' : Nat → Int} (h : ∀ j, 1150 ≤ j → s' j = s j) (i : Nat) : blk s' i = blk s i := by
  funext c; unfold blk; split
  · exact h _ (by omega)
  · rfl
theorem mAi_ne {s s' : Nat → Int} (h : ∀ j, 1150 ≤ j → s' j = s j) {i w : Int} (hi : 0 ≤ i) (hw : 0 ≤ w) : mAi s' i w = mAi s i w := by
  simp only [mAi]; exact h _ (by omega)
/-- the parts of the state that airOK, airQ and lisOK look at -/
theorem MI_keep {c c' : Int} {s s' : Nat → Int} (h : MI c s) (ha : ∀ j, 1150 ≤ j → s' j = s j) (hc : ∀ j, 550 ≤ j → j < 1150 → s' j = s j) (hl : ∀ l w : Int, 0 ≤ l → l < s 3 → 0 ≤ w → w < 2 → mLi s' l w = mLi s l w) (h0 : 0 ≤ s' 0 ∧ s' 0 ≤ 99) (h1 : 0 ≤ s' 1) (h2 : s' 2 = s 2) (h3 : s' 3 = s 3) (h4 : s' 4 = s 4) (h7 : s' 7 = s 7) (hq : s 7 ≤ s' 1 + c') : MI c' s' := by
  obtain ⟨a0, a1, a2, a3, a7, aA, aQ, aL⟩ := h
  refine ⟨h0, h1, by rw [h2]; exact a2, by rw [h3]; exact a3, ⟨by rw [h7]; exact a7.1, by rw [h7]; exact hq⟩, ⟨by rw [h4]; exact aA.1, by rw [h4]; exact aA.2.1, fun i i0 i4 => ?_⟩, fun i i0 i4 => ?_, fun l l0 l3 => ?_⟩
  · rw [h4] at i4
    have := aA.2.2 i i0 i4
    rw [mAi_ne ha i0 (by decide), mAi_ne ha i0 (by decide), mAi_ne ha i0 (by decide)]
    refine ⟨this.1, this.2.1, this.2.2.1, fun h9 => ?_⟩
    have h10 := this.2.2.2 h9
    have e : mCo s' (mAi s i 1) 0 = mCo s (mAi s i 1) 0 := by simp only [mCo]; exact hc _ (by omega) (by have := this.1; omega)
    rw [e]; exact h10
  · rw [h4] at i4
    have := aQ i i0 i4
    rw [mAi_ne ha i0 (by decide), h7]
    refine ⟨this.1, fun j hj hj4 => ?_⟩
    rw [mAi_ne ha (by omega) (by decide)]
    exact this.2 j hj (by omega)
  · rw [h3] at l3
    rw [hl l 0 l0 l3 (by decide) (by decide), hl l 1 l0 l3 (by decide) (by decide)]
    exact aL l l0 l3
theorem MI_same {c l : Int} {s s' : Nat → Int} (h : MI c s) (hs : sameOut l s s') (hl : 0 ≤ l ∧ l ≤ 5) : MI c s' := by
  have e1 := sameOut_hd hs hl (j := 1) (by decide)
  have e0 := sameOut_hd hs hl (j := 0) (by decide)
  refine MI_keep h (fun j hj => hs j (by omega)) (fun j hj hj2 => hs j (by omega)) (fun l' w l0 l3 w0 w2 => ?_) (by rw [e0]; exact h.1) (by rw [e1]; exact h.2.1) (sameOut_hd hs hl (by decide)) (sameOut_hd hs hl (by decide)) (sameOut_hd hs hl (by decide)) (sameOut_hd hs hl (by decide)) (by rw [e1]; exact h.2.2.2.2.1.2)
  have := h.2.2.2.1
  simp only [mLi]; exact hs _ (by omega)
theorem airs_hd {s : Nat → Int} {w n len : Int} {j : Nat} (hj : j < 1150) (h : j ≠ 4 ∧ j ≠ 5 ∧ j ≠ 7) : mAirs s w n len j = s j := by
  unfold mAirs; rw [up1_ne h.2.1, up1_ne h.2.2, up1_ne h.1, airF_lo hj]
theorem airs_4 {s : Nat → Int} {w n len : Int} : mAirs s w n len 4 = s 4 + 1 := by
  unfold mAirs; rw [up1_ne (by decide), up1_ne (by decide), up1_eq]
theorem airs_7 {s : Nat → Int} {w n len : Int} : mAirs s w n len 7 = s 7 + 1 := by
  unfold mAirs; rw [up1_ne (by decide), up1_eq]
theorem airs_5 {s : Nat → Int} {w n len : Int} : mAirs s w n len 5 = wr (s 5 + w) := by
  unfold mAirs; rw [up1_eq]
theorem airs_hi {s : Nat → Int} {w n len : Int} {j : Nat} (hj : 8 ≤ j) : mAirs s w n len j = airF s w n len 71 j := by
  unfold mAirs; rw [up1_ne (by omega), up1_ne (by omega), up1_ne (by omega)]
theorem airs_old {s : Nat → Int} {w n len i x : Int} (h0 : 0 ≤ i) (h : i < s 4) (hx : 0 ≤ x ∧ x < 71) : mAi (mAirs s w n len) i x = mAi s i x := by
  simp only [mAi]; rw [airs_hi (by omega)]; simp only [airF]; rw [if_neg (by omega)]
theorem airs_new {s : Nat → Int} {w n len x : Int} (h0 : 0 ≤ s 4) (hx : 0 ≤ x ∧ x < 71) : mAi (mAirs s w n len) (s 4) x = airC s w n len x.toNat := by
  simp only [mAi]; rw [airs_hi (by omega)]; simp only [airF]; rw [if_pos (by omega)]; congr 1; omega
theorem MI_airs {c w n len : Int} {s : Nat → Int} (h : MI c s) (h4 : s 4 < 30) (hw : w = 0 ∨ w = 1) (hn : 0 ≤ n ∧ n ≤ 99) (hw0 : w = 0 → 1 ≤ n ∧ 0 ≤ mCo s n 0 ∧ mCo s n 0 < 12) (h7 : s 7 < 1000000) (c' : Int) (hc' : s 7 + 1 ≤ s 1 + c') : MI c' (mAirs s w n len) := by
  obtain ⟨a0, a1, a2, a3, a7, aA, aQ, aL⟩ := h
  have e0 : mAirs s w n len 0 = s 0 := airs_hd (by decide) (by decide)
  have e1 : mAirs s w n len 1 = s 1 := airs_hd (by decide) (by decide)
  have e2 : mAirs s w n len 2 = s 2 := airs_hd (by decide) (by decide)
  have e3 : mAirs s w n len 3 = s 3 := airs_hd (by decide) (by decide)
  have hA4 := aA.1
  have hco : ∀ m : Int, 1 ≤ m → m ≤ 99 → mCo (mAirs s w n len) m 0 = mCo s m 0 := by
    intro m hm hm2; simp only [mCo]; exact airs_hd (by omega) (by omega)
  refine ⟨by rw [e0]; exact a0, by rw [e1]; exact a1, by rw [e2]; exact a2, by rw [e3]; exact a3, ⟨by rw [airs_7]; omega, by rw [airs_7, e1]; exact hc'⟩, ⟨by rw [airs_4]; omega, by rw [airs_4]; omega, fun i i0 i4 => ?_⟩, fun i i0 i4 => ?_, fun l l0 l3 => ?_⟩
  · rw [airs_4] at i4
    by_cases hi : i < s 4
    · rw [airs_old i0 hi (by decide), airs_old i0 hi (by decide), airs_old i0 hi (by decide)]
      have := aA.2.2 i i0 hi
      refine ⟨this.1, this.2.1, this.2.2.1, fun h9 => ?_⟩
      have h10 := this.2.2.2 h9
      rw [hco _ h10.1 this.1.2]; exact h10
    · have e : i = s 4 := by omega
      subst e
      rw [airs_new hA4 (by decide), airs_new hA4 (by decide), airs_new hA4 (by decide)]
      have q1 : airC s w n len (1 : Int).toNat = n := rfl
      have q0 : airC s w n len (0 : Int).toNat = w := rfl
      have q4 : airC s w n len (4 : Int).toNat = s 7 := rfl
      rw [q1, q0, q4]
      refine ⟨hn, by omega, by omega, fun h9 => ?_⟩
      have h10 := hw0 h9
      rw [hco _ h10.1 hn.2]; exact h10
  · rw [airs_4] at i4
    rw [airs_4, airs_7]
    by_cases hi : i < s 4
    · rw [airs_old i0 hi (by decide)]
      have := aQ i i0 hi
      refine ⟨by omega, fun j hj hj4 => ?_⟩
      by_cases hj2 : j < s 4
      · rw [airs_old (by omega) hj2 (by decide)]; exact this.2 j hj hj2
      · have e : j = s 4 := by omega
        subst e
        rw [airs_new hA4 (by decide)]
        exact this.1
    · have e : i = s 4 := by omega
      subst e
      rw [airs_new hA4 (by decide)]
      have q4 : airC s w n len (4 : Int).toNat = s 7 := rfl
      rw [q4]
      exact ⟨by omega, fun j hj hj4 => by omega⟩
  · rw [e3] at l3
    have e : ∀ x : Int, 0 ≤ x → x < 2 → mLi (mAirs s w n len) l x = mLi s l x := by
      intro x x0 x2; simp only [mLi]; exact airs_hd (by omega) (by omega)
    rw [e 0 (by decide) (by decide), e 1 (by decide) (by decide)]
    exact aL l l0 l3
theorem MI_T1 {c : Int} {s : Nat → Int} (h : MI c s) : MI (c - 1) (mT1 s) := by
  have h7 := h.2.2.2.2.1
  have h1 := h.2.1
  unfold mT1
  refine MI_keep h (fun j hj => up1_ne (by omega)) (fun j hj _ => up1_ne (by omega)) (fun l w l0 l3 w0 w2 => by simp only [mLi]; exact up1_ne (by omega)) (by rw [up1_ne (by decide)]; exact h.1) (by rw [up1_eq]; omega) (up1_ne (by decide)) (up1_ne (by decide)) (up1_ne (by decide)) (up1_ne (by decide)) (by rw [up1_eq]; omega)
theorem MI_le {c c' : Int} {s : Nat → Int} (h : MI c s) (hc : c ≤ c') : MI c' s := by
  obtain ⟨a0, a1, a2, a3, a7, r⟩ := h
  exact ⟨a0, a1, a2, a3, ⟨a7.1, by omega⟩, r⟩
theorem MI_T2 {c : Int} {s : Nat → Int} (h : MI c s) (hc : c ≤ 1000) (h1 : s 1 ≤ 15000) : MI c (mT2 s) := by
  have hT := MI_T1 h
  have h7 := h.2.2.2.2.1
  have e7 : mT1 s 7 = s 7 := up1_ne (by decide)
  have e1 : mT1 s 1 = s 1 + 1 := up1_eq
  have e4 : mT1 s 4 = s 4 := up1_ne (by decide)
  unfold mT2
  split
  · split
    · rename_i h4
      exact MI_airs hT (by rw [e4]; exact h4) (.inr rfl) h.2.2.1 (by intro h9; omega) (by rw [e7]; omega) c (by rw [e7, e1]; omega)
    · refine MI_keep (MI_le hT (c' := c) (by omega)) (fun j hj => up1_ne (by omega)) (fun j hj _ => up1_ne (by omega)) (fun l w l0 l3 w0 w2 => by simp only [mLi]; exact up1_ne (by omega)) (by rw [up1_ne (by decide)]; exact hT.1) (by rw [up1_ne (by decide)]; exact hT.2.1) (up1_ne (by decide)) (up1_ne (by decide)) (up1_ne (by decide)) (up1_ne (by decide)) (by rw [up1_ne (by decide)]; rw [e7, e1]; omega)
  · exact MI_le hT (by omega)
theorem srt_perm {s : Nat → Int} : (srt s).Perm (airL s) := List.mergeSort_perm _ _
theorem airL_len {s : Nat → Int} : (airL s).length = (s 4).toNat := by simp [airL]
theorem airL_get {s : Nat → Int} {i : Nat} (h : i < (airL s).length) : (airL s)[i] = blk s i := by simp [airL]
theorem airL_nd {c : Int} {s : Nat → Int} (h : MI c s) : (airL s).Pairwise (fun b c => bRank b ≠ bRank c) := by
  rw [List.pairwise_iff_getElem]
  intro i j hi hj hij
  rw [airL_get, airL_get]
  rw [airL_len] at hi hj
  have q := h.2.2.2.2.2.2.1 (i : Int) (by omega) (by omega)
  have q2 := q.2 (j : Int) (by omega) (by omega)
  obtain ⟨b1, b2, b3, -⟩ := h.2.2.2.2.2.1.2.2 (i : Int) (by omega) (by omega)
  obtain ⟨c1, c2, c3, -⟩ := h.2.2.2.2.2.1.2.2 (j : Int) (by omega) (by omega)
  have r1 := mRank_blk (s := s) (i := (i : Int)) (by omega)
  have r2 := mRank_blk (s := s) (i := (j : Int)) (by omega)
  rw [Int.toNat_natCast] at r1 r2
  rw [← r1, ← r2]
  unfold mRank
  omega
theorem srt_lt {c : Int} {s : Nat → Int} (h : MI c s) : (srt s).Pairwise (fun b c => bRank b < bRank c) := by
  have h1 : (srt s).Pairwise (fun b c => decide (bRank b ≤ bRank c) = true) := List.pairwise_mergeSort (fun a b c h1 h2 => by simp at *; omega) (fun a b => by simp; omega) _
  have h2 : (srt s).Pairwise (fun b c => bRank b ≠ bRank c) := ((srt_perm (s := s)).pairwise_iff (fun h => Ne.symm h)).mpr (airL_nd h)
  exact (h1.and h2).imp fun ⟨a, b⟩ => by simp at a; omega
theorem srt_uniq {c : Int} {s : Nat → Int} (h : MI c s) {C : List (Nat → Int)} (hp : C.Perm (airL s)) (hC : C.Pairwise (fun b c => bRank b < bRank c)) : C = srt s := by
  refine List.Perm.eq_of_pairwise (le := fun b c => bRank b < bRank c) (fun a b _ _ h1 h2 => by omega) hC (srt_lt h) (hp.trans srt_perm.symm)
theorem hear_fold {l : Int} {off : Bool} (hl : 0 ≤ l ∧ l ≤ 5) : ∀ (D : List (Nat → Int)) (s : Nat → Int), airOK s → (∀ b ∈ D, b ∈ airL s) → sameOut l s (D.foldl (mStep l off) s) := by
  intro D
  induction D with
  | nil => intro s _ _; exact sameOut.refl
  | cons b D ih =>
    intro s hA hD
    obtain ⟨i, i0, i4, hb⟩ := airL_of (hD b (by simp))
    have hstep : sameOut l s (mStep l off s b) := sameOut_step hl (by
      intro hb1
      obtain ⟨b1, b2, b3, b4⟩ := hA.2.2 i i0 i4
      have g0 : mAi s i 0 = b 0 := by rw [mAi_blk i0 (by decide), ← hb]; rfl
      have g1 : mAi s i 1 = b 1 := by rw [mAi_blk i0 (by decide), ← hb]; rfl
      rw [g0, g1] at b4
      have := b4 (by omega)
      exact ⟨this.1, by omega, this.2⟩)
    refine hstep.trans (ih _ (airOK_same hstep hl hA) (fun c hc => ?_))
    obtain ⟨j, j0, j4, hc2⟩ := airL_of (hD c (by simp [hc]))
    rw [hc2, ← sameOut_blk hstep hl]
    exact airL_mem j0 (by rw [sameOut_hd hstep hl (by decide)]; exact j4)
theorem hearF_same {l : Int} {s : Nat → Int} {C : List (Nat → Int)} (hl : 0 ≤ l ∧ l ≤ 5) (hA : airOK s) (hC : ∀ b, b ∈ C → b ∈ airL s) : sameOut l s (mHearF C l s) :=
  hear_fold hl _ _ hA fun b hb => hC b (List.mem_filter.mp hb).1
theorem airL_same {l : Int} {s s' : Nat → Int} (h : sameOut l s s') (hl : 0 ≤ l ∧ l ≤ 5) : airL s' = airL s := by
  unfold airL
  rw [sameOut_hd h hl (by decide)]
  exact List.map_congr_left fun i _ => sameOut_blk h hl i
section M7
variable {L : Nat} {u : Nat → Nat → Int} {a : Nat → Nat → Nat} {t : Nat × Nat × Nat} {s : Nat → Int}
theorem M_hearAll_loop {c : Int} {C : List (Nat → Int)} {n : Int} (hn : 1 ≤ n ∧ n ≤ 6) (hso : C.Pairwise (fun b c => bRank b < bRank c)) : ∀ (d : Nat) (x : Int) (s : Nat → Int), 0 ≤ x → x + d = n → s 3 = n → MI c s → (∀ b, b ∈ C ↔ b ∈ airL s) →
    a_X 207 70 [a_r 1557, a_i x] [] (K0 L, upr u 1558 s, G a, t) = some (.inl none, (K0 L, upr u 1558 (mClears (itA d x s (mHearF C))), G a, t)) ∧ MI c (itA d x s (mHearF C)) := by
  intro d
  induction d with
  | zero =>
    intro x s h0 h hs3 hM hC
    have hA := hM.2.2.2.2.2.1
    have h4 := hA.1
    have h5 := hA.2.1
    refine ⟨?_, hM⟩
    rw [B_X11_ticks_70]
    simp (disch := first | assumption | omega | (simp only [upr_f, upr_eq]; first | assumption | omega)) only [B_X11_ticks_0, B_X11_ticks_39, B_X11_ticks_112, B_X11_ticks_99, B_X11_ticks_54, B_X11_ticks_102, Option.bind_some, back_v, Option.toList_some, Option.toList_none, List.cons_append, List.nil_append, Nat.reduceAdd, Int.reduceToNat, Int.reduceNeg, upm_eq, upm_r, upm_i, if_pos, if_neg, ite_self, true_or, or_true, true_and, and_true, false_or, or_false, false_and, and_false, wr_id, i10, i01, upr_f, upr_eq, upm_upr, upr_upr, lc_lt, lc_gt, lc_ge, lc_le, afit1, afit0, afitI, bifit, not_true_eq_false, not_false_eq_true, if_true, if_false, Bool.false_eq_true, reduceCtorEq, k1557, k1558, g1557_2, M_clears, itA]
  | succ d ih =>
    intro x s h0 h hs3 hM hC
    have hA := hM.2.2.2.2.2.1
    have hx : 0 ≤ x ∧ x ≤ 5 := by omega
    have hg := (hM.2.2.2.2.2.2.2 x h0 (by omega)).2
    have hoff := M_isOff (L := L) (u := upr u 1558 s) (a := a) (t := t) (l := x) (time := s 1) hx (by rw [upr_f]; exact hg)
    rw [upr_f] at hoff
    have hlis := M_listens (L := L) (u := u) (a := a) (t := t) (s := s) (l := x) (time := s 1) (off := mOff s x (s 1)) (C := C) hx hA hC hso
    have e1 : (airDue x (s 1) C).foldl (mStep x (mOff s x (s 1))) s = mHearF C x s := rfl
    rw [e1] at hlis
    have hsm := hearF_same hx hA (fun b hb => (hC b).mp hb)
    have step := ih (x + 1) (mHearF C x s) (by omega) (by omega) (by rw [sameOut_hd hsm hx (by decide)]; exact hs3) (MI_same hM hsm hx) (fun b => by rw [airL_same hsm hx]; exact hC b)
    refine ⟨?_, step.2⟩
    rw [itA, ← step.1]
    rw [B_X11_ticks_70]
    simp (disch := first | assumption | omega | (simp only [upr_f, upr_eq]; first | assumption | omega)) only [B_X11_ticks_0, B_X11_ticks_39, B_X11_ticks_112, B_X11_ticks_99, B_X11_ticks_54, B_X11_ticks_102, Option.bind_some, back_v, Option.toList_some, Option.toList_none, List.cons_append, List.nil_append, Nat.reduceAdd, Int.reduceToNat, Int.reduceNeg, upm_eq, upm_r, upm_i, if_pos, if_neg, ite_self, true_or, or_true, true_and, and_true, false_or, or_false, false_and, and_false, wr_id, i10, i01, upr_f, upr_eq, upm_upr, upr_upr, lc_lt, lc_gt, lc_ge, lc_le, afit1, afit0, afitI, bifit, not_true_eq_false, not_false_eq_true, if_true, if_false, Bool.false_eq_true, reduceCtorEq, k1557, k1558, g1557_2, hoff, hlis]
theorem M_ticks {c : Int} (hM : MI c s) (hc : c ≤ 1000) (h1 : s 1 ≤ 15000) : a_m 207 [a_r 1557] (K0 L, upr u 1558 s, G a, t) = some (.inl none, (K0 L, upr u 1558 (mTick s), G a, t)) := by
  have hM2 := MI_T2 hM hc h1
  have h11 := hM.2.1
  have h00 := hM.1
  have hA := hM.2.2.2.2.2.1
  have h7 := hM.2.2.2.2.1
  have h3 := hM.2.2.2.1
  have hl := hM.2.2.2.2.2.2.2
  have h4 := hA.1
  have e3 : ∀ s' : Nat → Int, s' = mT2 s → s' 3 = s 3 := by
    intro s' hs'; subst hs'; unfold mT2; split
    · split
      · rw [airs_hd (by decide) (by decide)]; exact up1_ne (by decide)
      · rw [up1_ne (by decide)]; exact up1_ne (by decide)
    · exact up1_ne (by decide)
  have key := (M_hearAll_loop (L := L) (u := u) (a := a) (t := t) (c := c) (C := srt (mT2 s)) (n := s 3) h3 (srt_lt hM2) (s 3).toNat 0 (mT2 s) (by omega) (by omega) (e3 _ rfl) hM2 (fun b => srt_perm.mem_iff)).1
  have e9 : itA (s 3).toNat 0 (mT2 s) (mHearF (srt (mT2 s))) = mHearAll (srt (mT2 s)) (mT2 s) := by unfold mHearAll; rw [e3 _ rfl]
  rw [e9] at key
  have e8 : mClears (mHearAll (srt (mT2 s)) (mT2 s)) = mTick s := rfl
  rw [e8] at key
  by_cases hp : 0 < s 0
  · by_cases hq : (s 1 + 1).tmod (s 0) = 0
    · by_cases hr : s 4 < 30
      · have e2 : mT2 s = mAirs (up1 s 1 (s 1 + 1)) 1 (s 2) 5 := by unfold mT2; rw [if_pos ⟨hp, hq⟩, if_pos hr]; rfl
        rw [e2] at key
        have hai := M_airs (L := L) (u := u) (a := a) (t := t) (s := up1 s 1 (s 1 + 1)) (w := 1) (n := s 2) (len := 5) (.inr rfl) (by rw [up1_ne (by decide)]; omega) (by rw [up1_ne (by decide)]; omega) (by rw [up1_ne (by decide)]; omega) (by rw [up1_eq]; omega) (by decide) (fun l l0 l3 => by
          rw [up1_ne (by decide)] at l3
          simp only [mLi]; rw [up1_ne (by omega)]; exact (hl l l0 l3).1)
        simp (disch := first | assumption | omega | (simp only [upr_f, upr_eq]; first | assumption | omega)) only [E_X11_ticks, B_X11_ticks_0, B_X11_ticks_39, B_X11_ticks_112, B_X11_ticks_99, B_X11_ticks_54, B_X11_ticks_102, E_X11_hasRoom, B_X11_hasRoom_0, Option.bind_some, back_v, Option.toList_some, Option.toList_none, List.cons_append, List.nil_append, Nat.reduceAdd, Int.reduceToNat, Int.reduceNeg, upm_eq, upm_r, upm_i, if_pos, if_neg, ite_self, true_or, or_true, true_and, and_true, false_or, or_false, false_and, and_false, wr_id, i10, i01, upr_f, upr_eq, upm_upr, upr_upr, lc_lt, lc_gt, lc_ge, lc_le, afit1, afit0, afitI, bifit, not_true_eq_false, not_false_eq_true, if_true, if_false, Bool.false_eq_true, reduceCtorEq, k1557, k1558, g1557_2, up1_eq, up1_ne, hq, hai]
        exact key
      · have e2 : mT2 s = up1 (up1 s 1 (s 1 + 1)) 6 (wr (s 6 + 1)) := by unfold mT2; rw [if_pos ⟨hp, hq⟩, if_neg hr]; rfl
        rw [e2] at key
        simp (disch := first | assumption | omega | (simp only [upr_f, upr_eq]; first | assumption | omega)) only [E_X11_ticks, B_X11_ticks_0, B_X11_ticks_39, B_X11_ticks_112, B_X11_ticks_99, B_X11_ticks_54, B_X11_ticks_102, E_X11_hasRoom, B_X11_hasRoom_0, Option.bind_some, back_v, Option.toList_some, Option.toList_none, List.cons_append, List.nil_append, Nat.reduceAdd, Int.reduceToNat, Int.reduceNeg, upm_eq, upm_r, upm_i, if_pos, if_neg, ite_self, true_or, or_true, true_and, and_true, false_or, or_false, false_and, and_false, wr_id, i10, i01, upr_f, upr_eq, upm_upr, upr_upr, lc_lt, lc_gt, lc_ge, lc_le, afit1, afit0, afitI, bifit, not_true_eq_false, not_false_eq_true, if_true, if_false, Bool.false_eq_true, reduceCtorEq, k1557, k1558, g1557_2, up1_eq, up1_ne, hq]
        exact key
    · have e2 : mT2 s = up1 s 1 (s 1 + 1) := by unfold mT2; rw [if_neg (fun h => hq h.2)]; rfl
      rw [e2] at key
      simp (disch := first | assumption | omega | (simp only [upr_f, upr_eq]; first | assumption | omega)) only [E_X11_ticks, B_X11_ticks_0, B_X11_ticks_39, B_X11_ticks_112, B_X11_ticks_99, B_X11_ticks_54, B_X11_ticks_102, E_X11_hasRoom, B_X11_hasRoom_0, Option.bind_some, back_v, Option.toList_some, Option.toList_none, List.cons_append, List.nil_append, Nat.reduceAdd, Int.reduceToNat, Int.reduceNeg, upm_eq, upm_r, upm_i, if_pos, if_neg, ite_self, true_or, or_true, true_and, and_true, false_or, or_false, false_and, and_false, wr_id, i10, i01, upr_f, upr_eq, upm_upr, upr_upr, lc_lt, lc_gt, lc_ge, lc_le, afit1, afit0, afitI, bifit, not_true_eq_false, not_false_eq_true, if_true, if_false, Bool.false_eq_true, reduceCtorEq, k1557, k1558, g1557_2, up1_eq, up1_ne, hq]
      exact key
  · have e2 : mT2 s = up1 s 1 (s 1 + 1) := by unfold mT2; rw [if_neg (fun h => hp h.1)]; rfl
    rw [e2] at key
    simp (disch := first | assumption | omega | (simp only [upr_f, upr_eq]; first | assumption | omega)) only [E_X11_ticks, B_X11_ticks_0, B_X11_ticks_39, B_X11_ticks_112, B_X11_ticks_99, B_X11_ticks_54, B_X11_ticks_102, E_X11_hasRoom, B_X11_hasRoom_0, Option.bind_some, back_v, Option.toList_some, Option.toList_none, List.cons_append, List.nil_append, Nat.reduceAdd, Int.reduceToNat, Int.reduceNeg, upm_eq, upm_r, upm_i, if_pos, if_neg, ite_self, true_or, or_true, true_and, and_true, false_or, or_false, false_and, and_false, wr_id, i10, i01, upr_f, upr_eq, upm_upr, upr_upr, lc_lt, lc_gt, lc_ge, lc_le, afit1, afit0, afitI, bifit, not_true_eq_false, not_false_eq_true, if_true, if_false, Bool.false_eq_true, reduceCtorEq, k1557, k1558, g1557_2, up1_eq, up1_ne]
    exact key
end M7
