/-! ===== hearing: the reference's numbers, and the class's ===== -/
theorem li_up1 {s : Nat → Int} {l w w' x : Int} (hl : 0 ≤ l) (hw : 0 ≤ w) (hw' : 0 ≤ w') : mLi (up1 s (436 + 19 * l + w').toNat x) l w = if w = w' then x else mLi s l w := by
  simp only [mLi, up1]
  by_cases h : w = w'
  · subst h; simp
  · rw [if_neg (by omega), if_neg h]
theorem li_cpy {s f : Nat → Int} {l w : Int} {a d n : Nat} (hl : 0 ≤ l) (hw : 0 ≤ w) (hd : d + n ≤ 436) : mLi (a_cpy f s a d n) l w = mLi s l w := by
  simp only [mLi]; exact cpy_out (by omega)
theorem li_lo {s : Nat → Int} {l w x : Int} {j : Nat} (hl : 0 ≤ l) (hw : 0 ≤ w) (hj : j < 436) : mLi (up1 s j x) l w = mLi s l w := by
  simp only [mLi]; exact up1_ne (by omega)
theorem of_up1_li {s : Nat → Int} {l k w l' w' x : Int} (hl : -1 ≤ l ∧ l ≤ 5) (hk : 0 ≤ k ∧ k < 12) (hw : 0 ≤ w ∧ w < 5) (hl' : 0 ≤ l') (hw' : 0 ≤ w') : mOf (up1 s (436 + 19 * l' + w').toNat x) l k w = mOf s l k w := by
  simp only [mOf]; exact up1_ne (by omega)
theorem of_out {s s' : Nat → Int} {l m k w : Int} (h : sameOut l s s') (hl : 0 ≤ l ∧ l ≤ 5) (hm : -1 ≤ m ∧ m ≤ 5) (hne : m ≠ l) (hk : 0 ≤ k ∧ k < 12) (hw : 0 ≤ w ∧ w < 5) : mOf s' m k w = mOf s m k w := by
  simp only [mOf]; exact h _ (by omega)
theorem li_out {s s' : Nat → Int} {l m w : Int} (h : sameOut l s s') (hl : 0 ≤ l ∧ l ≤ 5) (hm : 0 ≤ m ∧ m ≤ 5) (hne : m ≠ l) (hw : 0 ≤ w ∧ w < 19) : mLi s' m w = mLi s m w := by
  simp only [mLi]; exact h _ (by omega)
theorem li_keep {s s' : Nat → Int} {l w : Int} (h : sameOut l s s') (hl : 0 ≤ l ∧ l ≤ 5) (hw : 0 ≤ w ∧ w < 10) : mLi s' l w = mLi s l w := by
  simp only [mLi]; exact h _ (by omega)
theorem B_li {s : Nat → Int} {l n w : Int} (hl : 0 ≤ l) (hn : 1 ≤ n ∧ n ≤ 99) (hw : 0 ≤ w ∧ w < 19) :
    mLi (mHearB s l n) l w = if w = 15 + n.tdiv 32 then zor (mLi s l w) (zshl 1 (n.tmod 32)) else if w = 11 then max n (mLi s l 11) else mLi s l w := by
  have h4 := tdiv32 hn
  unfold mHearB
  rw [li_up1 hl hw.1 (by omega)]
  by_cases h : w = 15 + n.tdiv 32
  · rw [if_pos h, if_pos h, mHearN, li_up1 hl (by omega) (by decide), if_neg (by omega), h]
  · rw [if_neg h, if_neg h, mHearN, li_up1 hl hw.1 (by decide)]
theorem B_of {s : Nat → Int} {l m k w n : Int} (hl : 0 ≤ l ∧ l ≤ 5) (hm : -1 ≤ m ∧ m ≤ 5) (hn : 1 ≤ n ∧ n ≤ 99) (hk : 0 ≤ k ∧ k < 12) (hw : 0 ≤ w ∧ w < 5) : mOf (mHearB s l n) m k w = mOf s m k w := by
  have h4 := tdiv32 hn
  unfold mHearB mHearN
  rw [of_up1_li hm hk hw hl.1 (by omega), of_up1_li hm hk hw hl.1 (by decide)]
theorem mod_div32 {n m : Int} (hn : 1 ≤ n ∧ n ≤ 99) (hm : 1 ≤ m ∧ m ≤ 99) : (m.tdiv 32 = n.tdiv 32 ∧ m.tmod 32 = n.tmod 32) ↔ m = n := by
  rw [Int.tdiv_eq_ediv_of_nonneg (by omega), Int.tdiv_eq_ediv_of_nonneg (by omega), Int.tmod_eq_emod_of_nonneg (by omega), Int.tmod_eq_emod_of_nonneg (by omega)]
  omega
theorem tmod32 {n : Int} (h : 1 ≤ n ∧ n ≤ 99) : 0 ≤ n.tmod 32 ∧ n.tmod 32 < 32 := by
  rw [Int.tmod_eq_emod_of_nonneg (by omega)]; omega
/-- what a listener has heard behind a correction -/
theorem heard_B {s s' : Nat → Int} {l n m : Int} (hl : 0 ≤ l) (hn : 1 ≤ n ∧ n ≤ 99) (hm : 1 ≤ m ∧ m ≤ s 2) (h99 : s 2 ≤ 99) (h2 : s' 2 = s 2) (hli : ∀ w, 15 ≤ w → w < 19 → mLi s' l w = mLi (mHearB s l n) l w) : mHeard s' l m = (decide (m = n) || mHeard s l m) := by
  have h4 := tdiv32 (n := m) (by omega)
  rw [mHeard_tb, mHeard_tb, h2, inB_t hm.1 hm.2, hli _ (by omega) (by omega), B_li hl hn (by omega), Bool.true_and, Bool.true_and]
  have key := mod_div32 (n := n) (m := m) hn (by omega)
  by_cases h : m.tdiv 32 = n.tdiv 32
  · rw [if_pos (by omega), tb_or (tmod32 hn) (tmod32 (by omega))]
    congr 1
    rw [decide_eq_decide]
    exact ⟨fun h2 => key.mp ⟨h, h2⟩, fun h2 => by rw [h2]⟩
  · rw [if_neg (by omega), if_neg (by omega)]
    have : ¬ m = n := fun h2 => h (by rw [h2])
    simp [this]
theorem W0_li {s : Nat → Int} {l n w : Int} (hl : 0 ≤ l) (hw : 0 ≤ w) : mLi (mHearW0 s l n) l w = if w = 13 then wr (mLi s l 13 + 1) else if w = 10 then max n (mLi s l 10) else if w = 11 then max n (mLi s l 11) else mLi s l w := by
  unfold mHearW0 mHearN
  rw [li_up1 hl hw (by decide)]
  by_cases h : w = 13
  · rw [if_pos h, if_pos h, li_up1 hl (by decide) (by decide), if_neg (by decide), li_up1 hl (by decide) (by decide), if_neg (by decide)]
  · rw [if_neg h, if_neg h, li_up1 hl hw (by decide)]
    by_cases h2 : w = 10
    · rw [if_pos h2, if_pos h2, li_up1 hl (by decide) (by decide), if_neg (by decide)]
    · rw [if_neg h2, if_neg h2, li_up1 hl hw (by decide)]
theorem W0_of {s : Nat → Int} {l m k w n : Int} (hl : 0 ≤ l ∧ l ≤ 5) (hm : -1 ≤ m ∧ m ≤ 5) (hk : 0 ≤ k ∧ k < 12) (hw : 0 ≤ w ∧ w < 5) : mOf (mHearW0 s l n) m k w = mOf s m k w := by
  unfold mHearW0 mHearN
  rw [of_up1_li hm hk hw hl.1 (by decide), of_up1_li hm hk hw hl.1 (by decide), of_up1_li hm hk hw hl.1 (by decide)]
theorem Wk_li {s b : Nat → Int} {l k w : Int} (hl : 0 ≤ l ∧ l ≤ 5) (hk : 0 ≤ k ∧ k < 12) (hw : 0 ≤ w) : mLi (mHearWk l b k s) l w = mLi s l w := by
  unfold mHearWk; split
  · exact li_cpy hl.1 hw (by omega)
  · rfl
theorem Wi_li {b : Nat → Int} {l w : Int} (hl : 0 ≤ l ∧ l ≤ 5) (hw : 0 ≤ w) : ∀ (d : Nat) (x : Int) (s : Nat → Int), 0 ≤ x → x + d = 12 → mLi (itA d x s (mHearWk l b)) l w = mLi s l w := by
  intro d
  induction d with
  | zero => intro x s _ _; rfl
  | succ d ih => intro x s h0 h; rw [itA, ih _ _ (by omega) (by omega), Wk_li hl (by omega) hw]
theorem Wk_of {s b : Nat → Int} {l x k w : Int} (hl : 0 ≤ l ∧ l ≤ 5) (hx : 0 ≤ x ∧ x < 12) (hk : 0 ≤ k ∧ k < 12) (hw : 0 ≤ w ∧ w < 5) : mOf (mHearWk l b x s) l k w = if k = x ∧ mOf s l x 4 ≤ b (11 + 5 * x + 4).toNat then b (11 + 5 * k + w).toNat else mOf s l k w := by
  unfold mHearWk
  by_cases h : mOf s l x 4 ≤ b (11 + 5 * x + 4).toNat
  · rw [if_pos h]
    by_cases hkx : k = x
    · subst hkx
      rw [if_pos ⟨rfl, h⟩]
      simp only [mOf]
      rw [cpy_in (by omega) (by omega)]
      congr 1; omega
    · rw [if_neg (fun q => hkx q.1)]
      simp only [mOf]
      exact cpy_out (by omega)
  · rw [if_neg h, if_neg (fun q => h q.2)]
theorem Wi_of {b : Nat → Int} {l : Int} (hl : 0 ≤ l ∧ l ≤ 5) : ∀ (d : Nat) (x : Int) (s : Nat → Int), 0 ≤ x → x + d = 12 → ∀ k w, 0 ≤ k ∧ k < 12 → 0 ≤ w ∧ w < 5 → mOf (itA d x s (mHearWk l b)) l k w = if x ≤ k ∧ mOf s l k 4 ≤ b (11 + 5 * k + 4).toNat then b (11 + 5 * k + w).toNat else mOf s l k w := by
  intro d
  induction d with
  | zero => intro x s h0 h k w hk hw; rw [if_neg (by omega)]; rfl
  | succ d ih =>
    intro x s h0 h k w hk hw
    have e : ∀ w', 0 ≤ w' ∧ w' < 5 → mOf (mHearWk l b x s) l k w' = if k = x ∧ mOf s l x 4 ≤ b (11 + 5 * x + 4).toNat then b (11 + 5 * k + w').toNat else mOf s l k w' := fun w' hw' => Wk_of hl (by omega) hk hw'
    rw [itA, ih _ _ (by omega) (by omega) k w hk hw]
    by_cases hkx : k = x
    · rw [if_neg (by omega), e w hw]
      subst hkx
      by_cases h2 : mOf s l k 4 ≤ b (11 + 5 * k + 4).toNat
      · rw [if_pos ⟨rfl, h2⟩, if_pos ⟨by omega, h2⟩]
      · rw [if_neg (fun q => h2 q.2), if_neg (fun q => h2 q.2)]
    · rw [e w hw, e 4 (by decide), if_neg (c := k = x ∧ mOf s l x 4 ≤ b (11 + 5 * x + 4).toNat) (fun q => hkx q.1), if_neg (c := k = x ∧ mOf s l x 4 ≤ b (11 + 5 * x + 4).toNat) (fun q => hkx q.1)]
      by_cases h3 : x ≤ k
      · by_cases h2 : mOf s l k 4 ≤ b (11 + 5 * k + 4).toNat
        · rw [if_pos ⟨by omega, h2⟩, if_pos ⟨h3, h2⟩]
        · rw [if_neg (fun q => h2 q.2), if_neg (fun q => h2 q.2)]
      · rw [if_neg (fun q => h3 (by omega)), if_neg (fun q => h3 q.1)]
theorem W_of {b s : Nat → Int} {l k w : Int} (hl : 0 ≤ l ∧ l ≤ 5) (hk : 0 ≤ k ∧ k < 12) (hw : 0 ≤ w ∧ w < 5) : mOf (mHearW s l b) l k w = if mOf s l k 4 ≤ b (11 + 5 * k + 4).toNat then b (11 + 5 * k + w).toNat else mOf s l k w := by
  unfold mHearW
  rw [Wi_of hl _ _ _ (by decide) (by decide) k w hk hw, W0_of hl (by omega) hk hw, W0_of hl (by omega) hk (by decide)]
  by_cases h : mOf s l k 4 ≤ b (11 + 5 * k + 4).toNat
  · rw [if_pos ⟨hk.1, h⟩, if_pos h]
  · rw [if_neg (fun q => h q.2), if_neg h]
theorem W_li {b s : Nat → Int} {l w : Int} (hl : 0 ≤ l ∧ l ≤ 5) (hw : 0 ≤ w) : mLi (mHearW s l b) l w = if w = 13 then wr (mLi s l 13 + 1) else if w = 10 then max (b 1) (mLi s l 10) else if w = 11 then max (b 1) (mLi s l 11) else mLi s l w := by
  unfold mHearW; rw [Wi_li hl hw _ _ _ (by decide) (by decide), W0_li hl.1 hw]
theorem D_li {s : Nat → Int} {l n w : Int} (hl : 0 ≤ l ∧ l ≤ 5) (hw : 0 ≤ w) (hc : 0 ≤ mCo s n 0 ∧ mCo s n 0 < 12) : mLi (mHearD s l n) l w = if w = 12 ∧ ¬ mOf s l (mCo s n 0) 4 < n then wr (mLi s l 12 + 1) else mLi s l w := by
  unfold mHearD
  have e : s (16 + 60 * (l + 1) + 5 * mCo s n 0 + 4).toNat = mOf s l (mCo s n 0) 4 := rfl
  rw [e]
  by_cases h : mOf s l (mCo s n 0) 4 < n
  · rw [if_pos h, if_neg (fun q => q.2 h), li_lo hl.1 hw (by omega), li_cpy hl.1 hw (by omega)]
  · rw [if_neg h, li_up1 hl.1 hw (by decide)]
    by_cases h2 : w = 12
    · rw [if_pos h2, if_pos ⟨h2, h⟩]
    · rw [if_neg h2, if_neg (fun q => h2 q.1)]
theorem D_of {s : Nat → Int} {l n k w : Int} (hl : 0 ≤ l ∧ l ≤ 5) (hn : 1 ≤ n ∧ n ≤ 99) (hk : 0 ≤ k ∧ k < 12) (hw : 0 ≤ w ∧ w < 5) (hc : 0 ≤ mCo s n 0 ∧ mCo s n 0 < 12) : mOf (mHearD s l n) l k w = if k = mCo s n 0 ∧ mOf s l (mCo s n 0) 4 < n then (if w = 4 then n else mCo s n (1 + w)) else mOf s l k w := by
  unfold mHearD
  have e : s (16 + 60 * (l + 1) + 5 * mCo s n 0 + 4).toNat = mOf s l (mCo s n 0) 4 := rfl
  rw [e]
  by_cases h : mOf s l (mCo s n 0) 4 < n
  · rw [if_pos h]
    by_cases hkx : k = mCo s n 0
    · rw [if_pos ⟨hkx, h⟩]
      simp only [mOf]
      by_cases h4 : w = 4
      · rw [if_pos h4, h4, hkx]; exact up1_eq
      · rw [if_neg h4, up1_ne (by omega), cpy_in (by omega) (by omega)]
        simp only [mCo] at *
        congr 1; omega
    · rw [if_neg (fun q => hkx q.1)]
      simp only [mOf]
      rw [up1_ne (by omega)]
      exact cpy_out (by omega)
  · rw [if_neg h, if_neg (fun q => h q.2), of_up1_li (by omega) hk hw hl.1 (by decide)]
