/-! ===== changes of one listener ===== -/
/-- nothing outside a listener's own part differs (its gaps and its delay are in it) -/
def sameO2 (l : Int) (s s' : Nat → Int) : Prop := ∀ j : Nat, ¬ ((16 + 60 * (l + 1) ≤ j ∧ (j : Int) < 16 + 60 * (l + 1) + 60) ∨ (436 + 19 * l ≤ j ∧ (j : Int) < 436 + 19 * l + 19)) → s' j = s j
theorem O2_li {s s' : Nat → Int} {l m w : Int} (h : sameO2 l s s') (hl : 0 ≤ l ∧ l ≤ 5) (hm : 0 ≤ m ∧ m ≤ 5) (hne : m ≠ l) (hw : 0 ≤ w ∧ w < 19) : mLi s' m w = mLi s m w := by
  simp only [mLi]; exact h _ (by omega)
theorem O2_of {s s' : Nat → Int} {l m k w : Int} (h : sameO2 l s s') (hl : 0 ≤ l ∧ l ≤ 5) (hm : -1 ≤ m ∧ m ≤ 5) (hne : m ≠ l) (hk : 0 ≤ k ∧ k < 12) (hw : 0 ≤ w ∧ w < 5) : mOf s' m k w = mOf s m k w := by
  simp only [mOf]; exact h _ (by omega)
theorem O2_hd {l : Int} {s s' : Nat → Int} (h : sameO2 l s s') (hl : 0 ≤ l ∧ l ≤ 5) {j : Nat} (hj : j < 16) : s' j = s j := h _ (by omega)
theorem O2_airL {l : Int} {s s' : Nat → Int} (h : sameO2 l s s') (hl : 0 ≤ l ∧ l ≤ 5) : airL s' = airL s := by
  unfold airL
  rw [O2_hd h hl (by decide)]
  exact List.map_congr_left fun i _ => blk_ne (fun j hj => h j (by omega)) i
theorem O2_hi {l : Int} {s s' : Nat → Int} (h : sameO2 l s s') (hl : 0 ≤ l ∧ l ≤ 5) (h0 : hi0 s) : hi0 s' := fun j hj => by
  rw [h j (by omega)]; exact h0 j hj
theorem O2_MI {c l : Int} {s s' : Nat → Int} (hM : MI c s) (h : sameO2 l s s') (hl : 0 ≤ l ∧ l ≤ 5) (h0 : 0 ≤ mLi s' l 0 ∧ mLi s' l 0 ≤ 9) (h1 : 0 ≤ mLi s' l 1 ∧ mLi s' l 1 ≤ 4) : MI c s' := by
  obtain ⟨a0, a1, a2, a3, a7, aA, aQ, aL⟩ := hM
  have ha : ∀ j, 1150 ≤ j → s' j = s j := fun j hj => h j (by omega)
  have e : ∀ j, j < 16 → s' j = s j := fun j hj => O2_hd h hl hj
  refine ⟨by rw [e 0 (by decide)]; exact a0, by rw [e 1 (by decide)]; exact a1, by rw [e 2 (by decide)]; exact a2, by rw [e 3 (by decide)]; exact a3, by rw [e 7 (by decide), e 1 (by decide)]; exact a7, ⟨by rw [e 4 (by decide)]; exact aA.1, by rw [e 4 (by decide)]; exact aA.2.1, fun i i0 i4 => ?_⟩, fun i i0 i4 => ?_, fun m m0 m3 => ?_⟩
  · rw [e 4 (by decide)] at i4
    have := aA.2.2 i i0 i4
    rw [mAi_ne ha i0 (by decide), mAi_ne ha i0 (by decide), mAi_ne ha i0 (by decide)]
    refine ⟨this.1, this.2.1, this.2.2.1, fun h9 => ?_⟩
    have h10 := this.2.2.2 h9
    have e9 : mCo s' (mAi s i 1) 0 = mCo s (mAi s i 1) 0 := by simp only [mCo]; exact h _ (by have := this.1; omega)
    rw [e9]; exact h10
  · rw [e 4 (by decide)] at i4
    have := aQ i i0 i4
    rw [mAi_ne ha i0 (by decide), e 7 (by decide), e 4 (by decide)]
    refine ⟨this.1, fun j hj hj4 => ?_⟩
    rw [mAi_ne ha (by omega) (by decide)]
    exact this.2 j hj hj4
  · rw [e 3 (by decide)] at m3
    by_cases hm : m = l
    · subst hm; exact ⟨h0, h1⟩
    · rw [O2_li h hl (by omega) hm (by decide), O2_li h hl (by omega) hm (by decide)]; exact aL m m0 m3
theorem rel_lis2 {v v' : Nat → Nat → Int} {b : Nat → Nat} {C : List (Nat → Int)} {s s' : Nat → Int} {c l : Int} (h : RelC v b C s) (hM : MI c s) (hl : 0 ≤ l ∧ l < s 3) (hs : sameO2 l s s') (hh : ∀ w, 15 ≤ w → w < 19 → mLi s' l w = mLi s l w) (hv : ∀ q, q ≠ 103 + 4 * l.toNat → q ≠ 104 + 4 * l.toNat → q ≠ 105 + 4 * l.toNat → q ≠ 106 + 4 * l.toNat → v' q = v q) (h1 : lis1 v' s' l) (h2 : slR v' (qOf l) (s 2) (mOf s' l)) : RelC v' b C s' := by
  obtain ⟨r1, r2, r3, r4, r5, r6, r7⟩ := h
  have hM2 := hM.2.2.1
  have hM3 := hM.2.2.2.1
  have hA := hM.2.2.2.2.2.1
  have hl5 : 0 ≤ l ∧ l ≤ 5 := by omega
  have e : ∀ j, j < 16 → s' j = s j := fun j hj => O2_hd hs hl5 hj
  have ht : tldS v v' := fun q q1 q2 => hv q (by omega) (by omega) (by omega) (by omega)
  have hlen := airR_len r7
  refine ⟨hdR_congr r1 (fun j _ _ => by rw [hv 0 (by omega) (by omega) (by omega) (by omega)]) (by rw [hv 1 (by omega) (by omega) (by omega) (by omega)]) (by rw [hv 10 (by omega) (by omega) (by omega) (by omega)]) (fun j hj => e j (by omega)), rowsR_congr r2 ht (e 2 (by decide)), corR_congr r3 ht (e 2 (by decide)) hM2.2 (fun j j1 j2 => hs j (by omega)), ?_, ?_, ?_, ?_⟩
  · refine heardR_congr r4 (hv 8 (by omega) (by omega) (by omega) (by omega)) (e 2 (by decide)) (e 3 (by decide)) (fun m n m0 m1 n1 n2 => ?_)
    have h4 := tdiv32 (n := n) (by omega)
    rw [mHeard_tb, mHeard_tb, e 2 (by decide)]
    by_cases hm : m = l
    · subst hm; rw [hh _ (by omega) (by omega)]
    · rw [O2_li hs hl5 (by omega) hm (by omega)]
  · intro m m0 m1
    rw [e 3 (by decide)] at m1
    rw [e 2 (by decide)]
    by_cases hm : m = l
    · subst hm; exact h2
    · refine slR_congr (r5 m m0 m1) ht (fun j _ => ?_) (Int.le_refl _) (fun k w k0 k1 w0 w1 => O2_of hs hl5 (by omega) hm ⟨k0, k1⟩ ⟨w0, w1⟩)
      have hq : v' (qOf m) = v (qOf m) := by
        unfold qOf; split
        · exact hv 9 (by omega) (by omega) (by omega) (by omega)
        · exact hv _ (by omega) (by omega) (by omega) (by omega)
      rw [hq]
  · intro m m0 m1
    rw [e 3 (by decide)] at m1
    by_cases hm : m = l
    · subst hm; exact h1
    · exact lis1_congr (r6 m m0 m1) (hv _ (by omega) (by omega) (by omega) (by omega)) (hv _ (by omega) (by omega) (by omega) (by omega)) (hv _ (by omega) (by omega) (by omega) (by omega)) (e 2 (by decide)) ((hM.2.2.2.2.2.2.2 m m0 m1).2.2) (fun w w0 w1 => O2_li hs hl5 (by omega) hm ⟨w0, w1⟩)
  · exact airR_congr r7 ht (fun q q1 q2 => hv q (by omega) (by omega) (by omega) (by omega)) (by rw [hlen]; have := hA.2.1; omega) (by rw [e 1 (by decide)]; exact Int.le_refl _) (e 2 (by decide)) (e 3 (by decide)) (O2_airL hs hl5)
theorem O2_up {l w x : Int} {s : Nat → Int} (hl : 0 ≤ l) (hw : 0 ≤ w ∧ w < 19) : sameO2 l s (up1 s (436 + 19 * l + w).toNat x) := by
  intro j hj; exact up1_ne (by omega)
theorem O2_trans {l : Int} {s s' s'' : Nat → Int} (h : sameO2 l s s') (h2 : sameO2 l s' s'') : sameO2 l s s'' := fun j hj => (h2 j hj).trans (h j hj)
/-- another delay -/
theorem rel_delay {v : Nat → Nat → Int} {b : Nat → Nat} {C : List (Nat → Int)} {s : Nat → Int} {c l x : Int} (h : RelC v b C s) (hM : MI c s) (hl : 0 ≤ l ∧ l < s 3) : RelC (upm v (103 + 4 * l.toNat) 0 x) b C (up1 s (436 + 19 * l + 0).toNat x) := by
  have hM3 := hM.2.2.2.1
  have r5 := h.2.2.2.2.1 l (by omega) hl.2
  have hg4 := (hM.2.2.2.2.2.2.2 l hl.1 hl.2).2
  obtain ⟨a1, a2, a3, a4, a5, a6, a7, a8, a9, a10⟩ := h.2.2.2.2.2.1 l hl.1 hl.2
  have g : ∀ w, 0 ≤ w → mLi (up1 s (436 + 19 * l + 0).toNat x) l w = if w = 0 then x else mLi s l w := fun w hw => li_up1 hl.1 hw (by decide)
  refine rel_lis2 h hM hl (O2_up hl.1 (by decide)) (fun w w0 w1 => by rw [g w (by omega), if_neg (by omega)]) (fun q q1 q2 q3 q4 => upm_rf q1) ?_ ?_
  · unfold lis1
    rw [g 0 (by decide), g 1 (by decide), g 10 (by decide), g 11 (by decide), g 12 (by decide), g 13 (by decide), g 14 (by decide), up1_ne (show 2 ≠ (436 + 19 * l + 0).toNat by omega)]
    refine ⟨by rw [upm_eq]; rfl, by rw [upm_i (by decide)]; exact a2, by rw [upm_i (by decide)]; exact a3, by rw [upm_i (by decide)]; exact a4, by rw [upm_i (by decide)]; exact a5, by rw [upm_i (by decide)]; exact a6, by rw [upm_i (by decide)]; exact a7, a8, a9, fun i i0 i1 => ?_⟩
    rw [g _ (by omega), g _ (by omega), if_neg (by omega), if_neg (by omega), upm_rf (by omega), upm_rf (by omega)]
    exact a10 i i0 i1
  · refine slR_congr r5 (fun q q1 q2 => upm_rf (by omega)) (fun j _ => ?_) (Int.le_refl _) (fun k w k0 k1 w0 w1 => of_up1_li (by omega) ⟨k0, k1⟩ ⟨w0, w1⟩ hl.1 (by decide))
    rw [upm_rf (by unfold qOf; split <;> omega)]
def mAddGap (s : Nat → Int) (l x y : Int) : Nat → Int :=
  up1 (up1 (up1 s (436 + 19 * l + (2 + 2 * mLi s l 1)).toNat x) (436 + 19 * l + (2 + 2 * mLi s l 1 + 1)).toNat y) (436 + 19 * l + 1).toNat (mLi s l 1 + 1)
theorem addGap_O2 {s : Nat → Int} {l x y : Int} (hl : 0 ≤ l) (hg : 0 ≤ mLi s l 1 ∧ mLi s l 1 < 4) : sameO2 l s (mAddGap s l x y) :=
  O2_trans (O2_trans (O2_up hl (by omega)) (O2_up hl (by omega))) (O2_up hl (by decide))
theorem addGap_li {s : Nat → Int} {l x y w : Int} (hl : 0 ≤ l) (hg : 0 ≤ mLi s l 1 ∧ mLi s l 1 < 4) (hw : 0 ≤ w) : mLi (mAddGap s l x y) l w = if w = 1 then mLi s l 1 + 1 else if w = 2 + 2 * mLi s l 1 + 1 then y else if w = 2 + 2 * mLi s l 1 then x else mLi s l w := by
  unfold mAddGap
  rw [li_up1 hl hw (by decide), li_up1 hl hw (by omega), li_up1 hl hw (by omega)]
theorem rel_addGap {v : Nat → Nat → Int} {b : Nat → Nat} {C : List (Nat → Int)} {s : Nat → Int} {c l x y : Int} (h : RelC v b C s) (hM : MI c s) (hl : 0 ≤ l ∧ l < s 3) (hg : mLi s l 1 < 4) : RelC (upm (upm (upm v (104 + 4 * l.toNat) (mLi s l 1).toNat x) (105 + 4 * l.toNat) (mLi s l 1).toNat y) (103 + 4 * l.toNat) 1 (mLi s l 1 + 1)) b C (mAddGap s l x y) := by
  have hM3 := hM.2.2.2.1
  have r5 := h.2.2.2.2.1 l (by omega) hl.2
  have hg4 := (hM.2.2.2.2.2.2.2 l hl.1 hl.2).2
  obtain ⟨a1, a2, a3, a4, a5, a6, a7, a8, a9, a10⟩ := h.2.2.2.2.2.1 l hl.1 hl.2
  have hO := addGap_O2 (x := x) (y := y) hl.1 ⟨hg4.1, hg⟩
  have g : ∀ w, 0 ≤ w → mLi (mAddGap s l x y) l w = if w = 1 then mLi s l 1 + 1 else if w = 2 + 2 * mLi s l 1 + 1 then y else if w = 2 + 2 * mLi s l 1 then x else mLi s l w := fun w hw => addGap_li hl.1 ⟨hg4.1, hg⟩ hw
  refine rel_lis2 h hM hl hO (fun w w0 w1 => by rw [g w (by omega), if_neg (by omega), if_neg (by omega), if_neg (by omega)]) (fun q q1 q2 q3 q4 => by rw [upm_rf q1, upm_rf q3, upm_rf q2]) ?_ ?_
  · have hb : ∀ j, j ≠ 1 → upm (upm (upm v (104 + 4 * l.toNat) (mLi s l 1).toNat x) (105 + 4 * l.toNat) (mLi s l 1).toNat y) (103 + 4 * l.toNat) 1 (mLi s l 1 + 1) (103 + 4 * l.toNat) j = v (103 + 4 * l.toNat) j := fun j hj => by rw [upm_i hj, upm_r (by omega), upm_r (by omega)]
    unfold lis1
    rw [g 0 (by decide), g 1 (by decide), g 10 (by decide), g 11 (by decide), g 12 (by decide), g 13 (by decide), g 14 (by decide), O2_hd hO (by omega) (j := 2) (by decide)]
    rw [hb 0 (by decide), hb 5 (by decide), hb 6 (by decide), hb 7 (by decide), hb 8 (by decide), hb 9 (by decide), upm_eq, if_neg (by decide), if_neg (by omega), if_neg (by omega), if_pos rfl, if_neg (by decide), if_neg (by omega), if_neg (by omega), if_neg (by decide), if_neg (by omega), if_neg (by omega), if_neg (by decide), if_neg (by omega), if_neg (by omega), if_neg (by decide), if_neg (by omega), if_neg (by omega), if_neg (by decide), if_neg (by omega), if_neg (by omega)]
    refine ⟨a1, rfl, a3, a4, a5, a6, a7, a8, a9, fun i i0 i1 => ?_⟩
    rw [g _ (by omega), g _ (by omega), if_neg (c := 2 + 2 * i = 1) (by omega), if_neg (c := 2 + 2 * i + 1 = 1) (by omega), if_neg (c := 2 + 2 * i = 2 + 2 * mLi s l 1 + 1) (by omega), upm_rf (by omega), upm_r (by omega), upm_rf (r := 103 + 4 * l.toNat) (by omega)]
    by_cases hi : i = mLi s l 1
    · subst hi
      rw [upm_eq, upm_eq, if_pos rfl, if_pos rfl]
      exact ⟨rfl, rfl⟩
    · rw [if_neg (by omega), if_neg (by omega), if_neg (by omega), upm_i (by omega), upm_i (by omega), upm_r (by omega)]
      exact a10 i i0 (by omega)
  · refine slR_congr r5 (fun q q1 q2 => by rw [upm_rf (by omega), upm_rf (by omega), upm_rf (by omega)]) (fun j _ => ?_) (Int.le_refl _) (fun k w k0 k1 w0 w1 => ?_)
    · rw [upm_rf (by unfold qOf; split <;> omega), upm_rf (by unfold qOf; split <;> omega), upm_rf (by unfold qOf; split <;> omega)]
    · unfold mAddGap
      rw [of_up1_li (by omega) ⟨k0, k1⟩ ⟨w0, w1⟩ hl.1 (by decide), of_up1_li (by omega) ⟨k0, k1⟩ ⟨w0, w1⟩ hl.1 (by omega), of_up1_li (by omega) ⟨k0, k1⟩ ⟨w0, w1⟩ hl.1 (by omega)]
/-- a gap taken away: the first d words behind the first one moved -/
def mDrpK (l : Int) (k : Int) (s : Nat → Int) : Nat → Int := up1 s (436 + 19 * l + k).toNat (mLi s l (k + 2))
def mDrop (s : Nat → Int) (l i : Int) : Nat → Int := up1 (itA (6 - 2 * i).toNat (2 + 2 * i) s (mDrpK l)) (436 + 19 * l + 1).toNat (mLi s l 1 - 1)
theorem drp_li {l : Int} (hl : 0 ≤ l) : ∀ (d : Nat) (x : Int) (s : Nat → Int), 2 ≤ x → x + d ≤ 8 → ∀ w, 0 ≤ w → mLi (itA d x s (mDrpK l)) l w = if x ≤ w ∧ w < x + d then mLi s l (w + 2) else mLi s l w := by
  intro d
  induction d with
  | zero => intro x s _ _ w _; rw [if_neg (by omega)]; rfl
  | succ d ih =>
    intro x s hx hd w hw
    rw [itA, ih _ _ (by omega) (by omega) w hw]
    have g : ∀ y, 0 ≤ y → mLi (mDrpK l x s) l y = if y = x then mLi s l (x + 2) else mLi s l y := fun y hy => li_up1 hl hy (by omega)
    rw [g w hw]
    by_cases h2 : x + 1 ≤ w ∧ w < x + 1 + (d : Int)
    · rw [if_pos h2, g _ (by omega), if_neg (by omega), if_pos (by omega)]
    · rw [if_neg h2]
      by_cases h : w = x
      · rw [if_pos h, if_pos (by omega), h]
      · rw [if_neg h, if_neg (by omega)]
theorem drp_O2 {l : Int} (hl : 0 ≤ l) : ∀ (d : Nat) (x : Int) (s : Nat → Int), 2 ≤ x → x + d ≤ 8 → sameO2 l s (itA d x s (mDrpK l)) := by
  intro d
  induction d with
  | zero => intro x s _ _ j _; rfl
  | succ d ih => intro x s hx hd; exact O2_trans (O2_up hl (by omega)) (ih _ _ (by omega) (by omega))
theorem drop_li {s : Nat → Int} {l i w : Int} (hl : 0 ≤ l) (hi : 0 ≤ i ∧ i < 4) (hw : 0 ≤ w) : mLi (mDrop s l i) l w = if w = 1 then mLi s l 1 - 1 else if 2 + 2 * i ≤ w ∧ w < 8 then mLi s l (w + 2) else mLi s l w := by
  unfold mDrop
  rw [li_up1 hl hw (by decide), drp_li hl _ _ _ (by omega) (by omega) w hw]
  by_cases h : w = 1
  · rw [if_pos h, if_pos h]
  · rw [if_neg h, if_neg h]
    by_cases h2 : 2 + 2 * i ≤ w ∧ w < 8
    · rw [if_pos (by omega), if_pos h2]
    · rw [if_neg (by omega), if_neg h2]
theorem drop_O2 {s : Nat → Int} {l i : Int} (hl : 0 ≤ l) (hi : 0 ≤ i ∧ i < 4) : sameO2 l s (mDrop s l i) := O2_trans (drp_O2 hl _ _ _ (by omega) (by omega)) (O2_up hl (by decide))
theorem rel_dropGap {v v' : Nat → Nat → Int} {b : Nat → Nat} {C : List (Nat → Int)} {s : Nat → Int} {c l i : Int} (h : RelC v b C s) (hM : MI c s) (hl : 0 ≤ l ∧ l < s 3) (hi : 0 ≤ i ∧ i < mLi s l 1)
    (hv : ∀ q, q ≠ 103 + 4 * l.toNat → q ≠ 104 + 4 * l.toNat → q ≠ 105 + 4 * l.toNat → v' q = v q) (h0 : ∀ j, j ≠ 1 → v' (103 + 4 * l.toNat) j = v (103 + 4 * l.toNat) j) (h01 : v' (103 + 4 * l.toNat) 1 = mLi s l 1 - 1)
    (hj : ∀ j : Int, 0 ≤ j → j < mLi s l 1 - 1 → v' (104 + 4 * l.toNat) j.toNat = v (104 + 4 * l.toNat) (if i ≤ j then j + 1 else j).toNat ∧ v' (105 + 4 * l.toNat) j.toNat = v (105 + 4 * l.toNat) (if i ≤ j then j + 1 else j).toNat) : RelC v' b C (mDrop s l i) := by
  have hM3 := hM.2.2.2.1
  have r5 := h.2.2.2.2.1 l (by omega) hl.2
  have hg4 := (hM.2.2.2.2.2.2.2 l hl.1 hl.2).2
  obtain ⟨a1, a2, a3, a4, a5, a6, a7, a8, a9, a10⟩ := h.2.2.2.2.2.1 l hl.1 hl.2
  have hO := drop_O2 (s := s) hl.1 (i := i) (by omega)
  have g : ∀ w, 0 ≤ w → mLi (mDrop s l i) l w = if w = 1 then mLi s l 1 - 1 else if 2 + 2 * i ≤ w ∧ w < 8 then mLi s l (w + 2) else mLi s l w := fun w hw => drop_li hl.1 (by omega) hw
  have hql : qOf l = 106 + 4 * l.toNat := by unfold qOf; rw [if_neg (by omega)]
  refine rel_lis2 h hM hl hO (fun w w0 w1 => by rw [g w (by omega), if_neg (by omega), if_neg (by omega)]) (fun q q1 q2 q3 q4 => hv q q1 q2 q3) ?_ ?_
  · unfold lis1
    rw [g 0 (by decide), g 1 (by decide), g 10 (by decide), g 11 (by decide), g 12 (by decide), g 13 (by decide), g 14 (by decide), O2_hd hO (by omega) (j := 2) (by decide), h0 0 (by decide), h01, h0 5 (by decide), h0 6 (by decide), h0 7 (by decide), h0 8 (by decide), h0 9 (by decide),
      if_neg (by decide), if_neg (by omega), if_pos rfl, if_neg (by decide), if_neg (by omega), if_neg (by decide), if_neg (by omega), if_neg (by decide), if_neg (by omega), if_neg (by decide), if_neg (by omega), if_neg (by decide), if_neg (by omega)]
    refine ⟨a1, rfl, a3, a4, a5, a6, a7, a8, a9, fun j j0 j1 => ?_⟩
    obtain ⟨k1, k2⟩ := hj j j0 j1
    rw [k1, k2, g _ (by omega), g _ (by omega), if_neg (c := 2 + 2 * j = 1) (by omega), if_neg (c := 2 + 2 * j + 1 = 1) (by omega)]
    by_cases hij : i ≤ j
    · rw [if_pos hij, if_pos (by omega), if_pos (by omega)]
      have := a10 (j + 1) (by omega) (by omega)
      rw [show 2 + 2 * (j + 1) = 2 + 2 * j + 2 from by omega, show 2 + 2 * j + 2 + 1 = 2 + 2 * j + 1 + 2 from by omega] at this
      exact this
    · rw [if_neg hij, if_neg (by omega), if_neg (by omega)]
      exact a10 j j0 (by omega)
  · rw [hql] at r5 ⊢
    refine slR_congr r5 (fun q q1 q2 => hv q (by omega) (by omega) (by omega)) (fun j _ => by rw [hv _ (by omega) (by omega) (by omega)]) (Int.le_refl _) (fun k w k0 k1 w0 w1 => ?_)
    simp only [mOf]
    have hOl : ∀ j : Nat, (j : Int) < 436 → mDrop s l i j = s j := by
      intro j hj
      unfold mDrop
      rw [up1_ne (by omega)]
      have key : ∀ (d : Nat) (x : Int) (s : Nat → Int), 2 ≤ x → itA d x s (mDrpK l) j = s j := by
        intro d
        induction d with
        | zero => intro x s _; rfl
        | succ d ih => intro x s hx; rw [itA, ih _ _ (by omega)]; exact up1_ne (by omega)
      exact key _ _ _ (by omega)
    exact hOl _ (by omega)
/-- the published list fetched -/
def mFetK (l k : Int) (s : Nat → Int) : Nat → Int := a_cpy s s (16 + 60 * (-1 + 1) + 5 * k).toNat (16 + 60 * (l + 1) + 5 * k).toNat 5
def mFetch (s : Nat → Int) (l : Int) : Nat → Int := up1 (itA 12 0 s (mFetK l)) (436 + 19 * l + 10).toNat (max (s 2) (mLi s l 10))
theorem fet_of {l : Int} (hl : 0 ≤ l ∧ l ≤ 5) : ∀ (d : Nat) (x : Int) (s : Nat → Int), 0 ≤ x → x + d = 12 → (∀ k w, 0 ≤ k → k < 12 → 0 ≤ w → w < 5 → mOf (itA d x s (mFetK l)) l k w = if x ≤ k then mOf s (-1) k w else mOf s l k w) ∧ (∀ j : Nat, ¬ (16 + 60 * (l + 1) ≤ j ∧ (j : Int) < 16 + 60 * (l + 1) + 60) → itA d x s (mFetK l) j = s j) := by
  intro d
  induction d with
  | zero => intro x s _ h; exact ⟨fun k w k0 k1 _ _ => by rw [if_neg (by omega)]; rfl, fun _ _ => rfl⟩
  | succ d ih =>
    intro x s h0 h
    obtain ⟨g1, g2⟩ := ih (x + 1) (mFetK l x s) (by omega) (by omega)
    have q1 : ∀ j : Nat, ¬ (16 + 60 * (l + 1) ≤ j ∧ (j : Int) < 16 + 60 * (l + 1) + 60) → mFetK l x s j = s j := fun j hj => cpy_out (by omega)
    refine ⟨fun k w k0 k1 w0 w1 => ?_, fun j hj => by rw [itA, g2 j hj, q1 j hj]⟩
    rw [itA, g1 k w k0 k1 w0 w1]
    have e1 : mOf (mFetK l x s) (-1) k w = mOf s (-1) k w := by simp only [mOf]; exact q1 _ (by omega)
    have e2 : mOf (mFetK l x s) l k w = if k = x then mOf s (-1) k w else mOf s l k w := by
      simp only [mOf, mFetK]
      by_cases hk : k = x
      · subst hk; rw [if_pos rfl, cpy_in (by omega) (by omega)]; congr 1; omega
      · rw [if_neg hk]; exact cpy_out (by omega)
    rw [e1, e2]
    by_cases h1 : x + 1 ≤ k
    · rw [if_pos h1, if_pos (by omega)]
    · rw [if_neg h1]
      by_cases h2 : k = x
      · rw [if_pos h2, if_pos (by omega)]
      · rw [if_neg h2, if_neg (by omega)]
theorem fetch_O2 {s : Nat → Int} {l : Int} (hl : 0 ≤ l ∧ l ≤ 5) : sameO2 l s (mFetch s l) := by
  intro j hj
  unfold mFetch
  rw [up1_ne (by omega)]
  exact (fet_of hl 12 0 s (by decide) (by decide)).2 j (by omega)
theorem fetch_li {s : Nat → Int} {l w : Int} (hl : 0 ≤ l ∧ l ≤ 5) (hw : 0 ≤ w) : mLi (mFetch s l) l w = if w = 10 then max (s 2) (mLi s l 10) else mLi s l w := by
  unfold mFetch
  rw [li_up1 hl.1 hw (by decide)]
  by_cases h : w = 10
  · rw [if_pos h, if_pos h]
  · rw [if_neg h, if_neg h]
    simp only [mLi]; exact (fet_of hl 12 0 s (by decide) (by decide)).2 _ (by omega)
theorem fetch_of {s : Nat → Int} {l k w : Int} (hl : 0 ≤ l ∧ l ≤ 5) (hk : 0 ≤ k ∧ k < 12) (hw : 0 ≤ w ∧ w < 5) : mOf (mFetch s l) l k w = mOf s (-1) k w := by
  unfold mFetch
  rw [of_up1_li (by omega) hk hw hl.1 (by decide), (fet_of hl 12 0 s (by decide) (by decide)).1 k w hk.1 hk.2 hw.1 hw.2, if_pos hk.1]
theorem rel_fetch {v : Nat → Nat → Int} {b : Nat → Nat} {C : List (Nat → Int)} {s : Nat → Int} {c l : Int} (h : RelC v b C s) (hM : MI c s) (hl : 0 ≤ l ∧ l < s 3) : RelC (upm (upr v (106 + 4 * l.toNat) (a_cpy (v 9) (v (106 + 4 * l.toNat)) 0 0 12)) (103 + 4 * l.toNat) 5 (max (v (103 + 4 * l.toNat) 5) (s 2))) b C (mFetch s l) := by
  have hM3 := hM.2.2.2.1
  have hM2 := hM.2.2.1
  have hl5 : 0 ≤ l ∧ l ≤ 5 := by omega
  have r9 := h.2.2.2.2.1 (-1) (by decide) (by omega)
  have hg4 := (hM.2.2.2.2.2.2.2 l hl.1 hl.2).2
  obtain ⟨a1, a2, a3, a4, a5, a6, a7, a8, a9, a10⟩ := h.2.2.2.2.2.1 l hl.1 hl.2
  have hO := fetch_O2 (s := s) hl5
  have g : ∀ w, 0 ≤ w → mLi (mFetch s l) l w = if w = 10 then max (s 2) (mLi s l 10) else mLi s l w := fun w hw => fetch_li hl5 hw
  have hql : qOf l = 106 + 4 * l.toNat := by unfold qOf; rw [if_neg (by omega)]
  have hq9 : qOf (-1) = 9 := by unfold qOf; rw [if_pos rfl]
  refine rel_lis2 h hM hl hO (fun w w0 w1 => by rw [g w (by omega), if_neg (by omega)]) (fun q q1 q2 q3 q4 => by rw [upm_rf q1, upr_rf q4]) ?_ ?_
  · have hb : ∀ j, j ≠ 5 → upm (upr v (106 + 4 * l.toNat) (a_cpy (v 9) (v (106 + 4 * l.toNat)) 0 0 12)) (103 + 4 * l.toNat) 5 (max (v (103 + 4 * l.toNat) 5) (s 2)) (103 + 4 * l.toNat) j = v (103 + 4 * l.toNat) j := fun j hj => by rw [upm_i hj, upr_r (by omega)]
    unfold lis1
    rw [g 0 (by decide), g 1 (by decide), g 10 (by decide), g 11 (by decide), g 12 (by decide), g 13 (by decide), g 14 (by decide), O2_hd hO hl5 (j := 2) (by decide), hb 0 (by decide), hb 1 (by decide), hb 6 (by decide), hb 7 (by decide), hb 8 (by decide), hb 9 (by decide), upm_eq,
      if_neg (by decide), if_neg (by decide), if_pos rfl, if_neg (by decide), if_neg (by decide), if_neg (by decide), if_neg (by decide)]
    refine ⟨a1, a2, by rw [a3]; omega, a4, a5, a6, a7, by omega, a9, fun i i0 i1 => ?_⟩
    rw [g _ (by omega), g _ (by omega), if_neg (by omega), if_neg (by omega), upm_rf (by omega), upr_rf (by omega), upm_rf (by omega), upr_rf (by omega)]
    exact a10 i i0 i1
  · rw [hql]
    rw [hq9] at r9
    refine slR_congr r9 (fun q q1 q2 => by rw [upm_rf (by omega), upr_rf (by omega)]) (fun j hj => ?_) (Int.le_refl _) (fun k w k0 k1 w0 w1 => fetch_of hl5 ⟨k0, k1⟩ ⟨w0, w1⟩)
    rw [upm_r (by omega), upr_eq, cpy_in (by omega) (by omega)]; congr 1; omega
