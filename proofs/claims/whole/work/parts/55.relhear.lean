/-! ===== the relation is kept when a listener hears ===== -/
theorem upm_row {α : Type} {f : Nat → Nat → α} {r i : Nat} {x : α} : upm f r i x r = up1 (f r) i x := by
  funext j; unfold upm up1; simp
theorem rel_listener {v v' : Nat → Nat → Int} {b : Nat → Nat} {C : List (Nat → Int)} {s s' : Nat → Int} {c l : Int} (h : RelC v b C s) (hM : MI c s) (hl : 0 ≤ l ∧ l < s 3) (hs : sameOut l s s') (hv : ∀ q, q ≠ 103 + 4 * l.toNat → q ≠ 106 + 4 * l.toNat → q ≠ 8 → v' q = v q) (h1 : lis1 v' s' l) (h2 : slR v' (qOf l) (s 2) (mOf s' l)) (h3 : heardR v' s') : RelC v' b C s' := by
  obtain ⟨r1, r2, r3, r4, r5, r6, r7⟩ := h
  have hM2 := hM.2.2.1
  have hM3 := hM.2.2.2.1
  have hA := hM.2.2.2.2.2.1
  have hl5 : 0 ≤ l ∧ l ≤ 5 := by omega
  have e : ∀ j, j < 16 → s' j = s j := fun j hj => sameOut_hd hs hl5 hj
  have ht : tldS v v' := fun q q1 q2 => hv q (by omega) (by omega) (by omega)
  have hlen := airR_len r7
  refine ⟨hdR_congr r1 (fun j _ _ => by rw [hv 0 (by omega) (by omega) (by omega)]) (by rw [hv 1 (by omega) (by omega) (by omega)]) (by rw [hv 10 (by omega) (by omega) (by omega)]) (fun j hj => e j (by omega)), rowsR_congr r2 ht (e 2 (by decide)), corR_congr r3 ht (e 2 (by decide)) hM2.2 (fun j j1 j2 => hs j (by omega)), h3, ?_, ?_, ?_⟩
  · intro m m0 m1
    rw [e 3 (by decide)] at m1
    rw [e 2 (by decide)]
    by_cases hm : m = l
    · subst hm; exact h2
    · refine slR_congr (r5 m m0 m1) ht (fun j _ => ?_) (Int.le_refl _) (fun k w k0 k1 w0 w1 => of_out hs hl5 (by omega) hm ⟨k0, k1⟩ ⟨w0, w1⟩)
      have hq : v' (qOf m) = v (qOf m) := by
        unfold qOf; split
        · exact hv 9 (by omega) (by omega) (by omega)
        · exact hv _ (by omega) (by omega) (by omega)
      rw [hq]
  · intro m m0 m1
    rw [e 3 (by decide)] at m1
    by_cases hm : m = l
    · subst hm; exact h1
    · exact lis1_congr (r6 m m0 m1) (hv _ (by omega) (by omega) (by omega)) (hv _ (by omega) (by omega) (by omega)) (hv _ (by omega) (by omega) (by omega)) (e 2 (by decide)) ((hM.2.2.2.2.2.2.2 m m0 m1).2.2) (fun w w0 w1 => li_out hs hl5 (by omega) hm ⟨w0, w1⟩)
  · exact airR_congr r7 ht (fun q q1 q2 => hv q (by omega) (by omega) (by omega)) (by rw [hlen]; have := hA.2.1; omega) (by rw [e 1 (by decide)]; exact Int.le_refl _) (e 2 (by decide)) (e 3 (by decide)) (airL_same hs hl5)
theorem rel_off {v : Nat → Nat → Int} {b : Nat → Nat} {C : List (Nat → Int)} {s x : Nat → Int} {c l : Int} (h : RelC v b C s) (hM : MI c s) (hl : 0 ≤ l ∧ l < s 3) : RelC (upm v (103 + 4 * l.toNat) 9 (wr (v (103 + 4 * l.toNat) 9 + 1))) b C (mStep l true s x) := by
  have hM3 := hM.2.2.2.1
  have hl5 : 0 ≤ l ∧ l ≤ 5 := by omega
  have r4 := h.2.2.2.1
  have r5 := h.2.2.2.2.1 l (by omega) hl.2
  obtain ⟨a1, a2, a3, a4, a5, a6, a7, a8, a9, a10⟩ := h.2.2.2.2.2.1 l hl.1 hl.2
  have es : mStep l true s x = up1 s (436 + 19 * l + 14).toNat (wr (mLi s l 14 + 1)) := by simp [mStep]
  rw [es]
  have hs : sameOut l s (up1 s (436 + 19 * l + 14).toNat (wr (mLi s l 14 + 1))) := sameOut_li hl.1 (by decide)
  have g : ∀ w, 0 ≤ w → mLi (up1 s (436 + 19 * l + 14).toNat (wr (mLi s l 14 + 1))) l w = if w = 14 then wr (mLi s l 14 + 1) else mLi s l w := fun w hw => li_up1 hl.1 hw (by decide)
  have e2 := sameOut_hd hs hl5 (j := 2) (by decide)
  refine rel_listener h hM hl hs (fun q q1 q2 q3 => upm_rf q1) ?_ ?_ ?_
  · unfold lis1
    rw [g 0 (by decide), g 1 (by decide), g 10 (by decide), g 11 (by decide), g 12 (by decide), g 13 (by decide), g 14 (by decide), e2]
    refine ⟨by rw [upm_i (by decide)]; exact a1, by rw [upm_i (by decide)]; exact a2, by rw [upm_i (by decide)]; exact a3, by rw [upm_i (by decide)]; exact a4, by rw [upm_i (by decide)]; exact a5, by rw [upm_i (by decide)]; exact a6, by rw [upm_eq, a7]; rfl, a8, a9, fun i i0 i1 => ?_⟩
    have hg4 := (hM.2.2.2.2.2.2.2 l hl.1 hl.2).2.2
    have i1' : i < mLi s l 1 := i1
    rw [g _ (by omega), g _ (by omega), if_neg (by omega), if_neg (by omega), upm_rf (by omega), upm_rf (by omega)]
    exact a10 i i0 i1
  · refine slR_congr r5 (fun q q1 q2 => upm_rf (by omega)) (fun j _ => ?_) (Int.le_refl _) (fun k w k0 k1 w0 w1 => of_up1_li (by omega) ⟨k0, k1⟩ ⟨w0, w1⟩ hl.1 (by decide))
    rw [upm_rf (by unfold qOf; split <;> omega)]
  · refine heardR_congr r4 (upm_rf (by omega)) e2 (sameOut_hd hs hl5 (by decide)) (fun m n m0 m1 n1 n2 => ?_)
    rw [mHeard_tb, mHeard_tb, e2]
    have h4 := tdiv32 (n := n) (by have := hM.2.2.1; omega)
    by_cases hm : m = l
    · subst hm; rw [g _ (by omega), if_neg (by omega)]
    · rw [li_out hs hl5 (by omega) hm (by omega)]
theorem rel_whole {v : Nat → Nat → Int} {b : Nat → Nat} {C : List (Nat → Int)} {s x : Nat → Int} {c l : Int} {S : Nat} (h : RelC v b C s) (hM : MI c s) (hl : 0 ≤ l ∧ l < s 3) (hx : sgR v s S x) (hw : x 0 = 1) :
    RelC (upr (upm (upm (upm v (103 + 4 * l.toNat) 6 (max (v (103 + 4 * l.toNat) 6) (v S 0))) (103 + 4 * l.toNat) 5 (max (v (103 + 4 * l.toNat) 5) (v S 0))) (103 + 4 * l.toNat) 8 (wr (v (103 + 4 * l.toNat) 8 + 1))) (106 + 4 * l.toNat) (fun j => if j < 12 then max (v (106 + 4 * l.toNat) j) (v (S + 2) j) else v (106 + 4 * l.toNat) j)) b C (mStep l false s x) := by
  have hM3 := hM.2.2.2.1
  have hl5 : 0 ≤ l ∧ l ≤ 5 := by omega
  have r4 := h.2.2.2.1
  have r5 := h.2.2.2.2.1 l (by omega) hl.2
  have hql : qOf l = 106 + 4 * l.toNat := by unfold qOf; rw [if_neg (by omega)]
  rw [hql] at r5
  obtain ⟨a1, a2, a3, a4, a5, a6, a7, a8, a9, a10⟩ := h.2.2.2.2.2.1 l hl.1 hl.2
  obtain ⟨b1, b2, b3, b4, b5, b6, b7, b8, b9, b10, b11, b12⟩ := hx
  have b13 := b12 hw
  have es : mStep l false s x = mHearW s l x := by simp [mStep, hw]
  rw [es]
  have hs : sameOut l s (mHearW s l x) := sameOut_W hl.1
  have g : ∀ w, 0 ≤ w → mLi (mHearW s l x) l w = if w = 13 then wr (mLi s l 13 + 1) else if w = 10 then max (x 1) (mLi s l 10) else if w = 11 then max (x 1) (mLi s l 11) else mLi s l w := fun w hw => W_li hl5 hw
  have e2 := sameOut_hd hs hl5 (j := 2) (by decide)
  refine rel_listener h hM hl hs (fun q q1 q2 q3 => ?_) ?_ ?_ ?_
  · rw [upr_rf q2, upm_rf q1, upm_rf q1, upm_rf q1]
  · unfold lis1
    rw [g 0 (by decide), g 1 (by decide), g 10 (by decide), g 11 (by decide), g 12 (by decide), g 13 (by decide), g 14 (by decide), e2]
    simp only [upr_r (show 103 + 4 * l.toNat ≠ 106 + 4 * l.toNat by omega)]
    refine ⟨?_, ?_, ?_, ?_, ?_, ?_, ?_, ?_, ?_, fun i i0 i1 => ?_⟩
    · rw [upm_i (by decide), upm_i (by decide), upm_i (by decide)]; exact a1
    · rw [upm_i (by decide), upm_i (by decide), upm_i (by decide)]; exact a2
    · rw [upm_i (by decide), upm_eq, a3, b1]; simp; omega
    · rw [upm_i (by decide), upm_i (by decide), upm_eq, a4, b1]; simp; omega
    · rw [upm_i (by decide), upm_i (by decide), upm_i (by decide)]; exact a5
    · rw [upm_eq, a6]; rfl
    · rw [upm_i (by decide), upm_i (by decide), upm_i (by decide)]; exact a7
    · simp; omega
    · simp; omega
    · have hg4 := (hM.2.2.2.2.2.2.2 l hl.1 hl.2).2.2
      have i1' : i < mLi s l 1 := i1
      rw [g _ (by omega), g _ (by omega), if_neg (by omega), if_neg (by omega), if_neg (by omega), if_neg (by omega), if_neg (by omega), if_neg (by omega), upr_rf (by omega), upm_rf (by omega), upm_rf (by omega), upm_rf (by omega), upr_rf (by omega), upm_rf (by omega), upm_rf (by omega), upm_rf (by omega)]
      exact a10 i i0 i1
  · rw [hql]
    intro k k0 k1
    obtain ⟨c1, c2, c3, c4⟩ := r5 k k0 k1
    obtain ⟨d1, d2, d3, d4⟩ := b13 k k0 k1
    have hv6 : upr (upm (upm (upm v (103 + 4 * l.toNat) 6 (max (v (103 + 4 * l.toNat) 6) (v S 0))) (103 + 4 * l.toNat) 5 (max (v (103 + 4 * l.toNat) 5) (v S 0))) (103 + 4 * l.toNat) 8 (wr (v (103 + 4 * l.toNat) 8 + 1))) (106 + 4 * l.toNat) (fun j => if j < 12 then max (v (106 + 4 * l.toNat) j) (v (S + 2) j) else v (106 + 4 * l.toNat) j) 6 = v 6 := by
      rw [upr_rf (by omega), upm_rf (by omega), upm_rf (by omega), upm_rf (by omega)]
    rw [hv6, upr_eq, if_pos (by omega), W_of hl5 ⟨k0, k1⟩ (by decide), vW_congr (v := v) (fun q q1 q2 => by rw [upr_rf (by omega), upm_rf (by omega), upm_rf (by omega), upm_rf (by omega)])]
    have e4 : (fun (k w : Int) => x (11 + 5 * k + w).toNat) k 4 = x (11 + 5 * k + 4).toNat := rfl
    rw [e4] at d3
    by_cases hc : mOf s l k 4 ≤ x (11 + 5 * k + 4).toNat
    · have hm : max (v (106 + 4 * l.toNat) k.toNat) (v (S + 2) k.toNat) = v (S + 2) k.toNat := by omega
      rw [hm, if_pos hc]
      refine ⟨d1, d2, d3, fun w w0 w1 => ?_⟩
      rw [W_of hl5 ⟨k0, k1⟩ ⟨w0, by omega⟩, if_pos hc]
      exact d4 w w0 w1
    · have hm : max (v (106 + 4 * l.toNat) k.toNat) (v (S + 2) k.toNat) = v (106 + 4 * l.toNat) k.toNat := by omega
      rw [hm, if_neg hc]
      refine ⟨c1, c2, c3, fun w w0 w1 => ?_⟩
      rw [W_of hl5 ⟨k0, k1⟩ ⟨w0, by omega⟩, if_neg hc]
      exact c4 w w0 w1
  · refine heardR_congr r4 (by rw [upr_rf (by omega), upm_rf (by omega), upm_rf (by omega), upm_rf (by omega)]) e2 (sameOut_hd hs hl5 (by decide)) (fun m n m0 m1 n1 n2 => ?_)
    rw [mHeard_tb, mHeard_tb, e2]
    have h4 := tdiv32 (n := n) (by have := hM.2.2.1; omega)
    by_cases hm : m = l
    · subst hm; rw [g _ (by omega), if_neg (by omega), if_neg (by omega), if_neg (by omega)]
    · rw [li_out hs hl5 (by omega) hm (by omega)]
theorem rel_cor {v : Nat → Nat → Int} {b : Nat → Nat} {C : List (Nat → Int)} {s x : Nat → Int} {c l : Int} {S : Nat} (h : RelC v b C s) (hM : MI c s) (hl : 0 ≤ l ∧ l < s 3) (hx : sgR v s S x) (hw : x 0 = 0) :
    RelC (upm (if v S 0 ≤ v (106 + 4 * l.toNat) (v S 1).toNat then upm (upm v (103 + 4 * l.toNat) 6 (max (v (103 + 4 * l.toNat) 6) (v S 0))) (103 + 4 * l.toNat) 7 (wr (v (103 + 4 * l.toNat) 7 + 1)) else upm (upm v (103 + 4 * l.toNat) 6 (max (v (103 + 4 * l.toNat) 6) (v S 0))) (106 + 4 * l.toNat) (v S 1).toNat (v S 0)) 8 (v S 0).toNat (zor (v 8 (v S 0).toNat) (zshl 1 l))) b C (mStep l false s x) := by
  have hM3 := hM.2.2.2.1
  have hM2 := hM.2.2.1
  have hl5 : 0 ≤ l ∧ l ≤ 5 := by omega
  have r4 := h.2.2.2.1
  have r5 := h.2.2.2.2.1 l (by omega) hl.2
  have hql : qOf l = 106 + 4 * l.toNat := by unfold qOf; rw [if_neg (by omega)]
  rw [hql] at r5
  obtain ⟨a1, a2, a3, a4, a5, a6, a7, a8, a9, a10⟩ := h.2.2.2.2.2.1 l hl.1 hl.2
  obtain ⟨b1, b2, b3, b4, b5, b6, b7, b8, b9, b10, b11, b12⟩ := hx
  rw [if_neg (by omega)] at b2
  have hn1 := b11 hw
  obtain ⟨c1, c2, c3, c4⟩ := h.2.2.1 (x 1) hn1 b10.2
  have hn : 1 ≤ x 1 ∧ x 1 ≤ 99 := by omega
  have es : mStep l false s x = mHearC s l (x 1) := by simp [mStep, hw]
  rw [es, b1, b2]
  generalize hnn : x 1 = n at *
  have hcB : ∀ w, 0 ≤ w → mCo (mHearB s l n) n w = mCo s n w := fun w w0 => sameOut_co (sameOut_B hl.1 hn) hl5 hn.1 w0
  have hs : sameOut l s (mHearC s l n) := sameOut_C hl5 hn (by rw [c2]; exact c1)
  have hcD : 0 ≤ mCo (mHearB s l n) n 0 ∧ mCo (mHearB s l n) n 0 < 12 := by rw [hcB 0 (by decide), c2]; exact c1
  have e2 := sameOut_hd hs hl5 (j := 2) (by decide)
  have hsl : 0 ≤ v 6 n.toNat ∧ v 6 n.toNat < 12 := c1
  obtain ⟨s1, s2, s3, s4⟩ := r5 (v 6 n.toNat) hsl.1 hsl.2
  have hB4 : mOf (mHearB s l n) l (mCo (mHearB s l n) n 0) 4 = v (106 + 4 * l.toNat) (v 6 n.toNat).toNat := by
    rw [hcB 0 (by decide), c2, B_of hl5 (by omega) hn hsl (by decide), s3]
  have h4 := tdiv32 hn
  have gD : ∀ w, 0 ≤ w → w < 19 → mLi (mHearC s l n) l w = if w = 12 ∧ ¬ v (106 + 4 * l.toNat) (v 6 n.toNat).toNat < n then wr (mLi s l 12 + 1) else if w = 15 + n.tdiv 32 then zor (mLi s l w) (zshl 1 (n.tmod 32)) else if w = 11 then max n (mLi s l 11) else mLi s l w := by
    intro w w0 w1
    unfold mHearC
    rw [D_li hl5 w0 hcD, hB4, B_li hl.1 hn ⟨w0, w1⟩, B_li hl.1 hn (by decide), if_neg (c := (12 : Int) = 15 + n.tdiv 32) (by omega), if_neg (c := (12 : Int) = 11) (by decide)]
  have gO : ∀ k w, 0 ≤ k ∧ k < 12 → 0 ≤ w ∧ w < 5 → mOf (mHearC s l n) l k w = if k = v 6 n.toNat ∧ v (106 + 4 * l.toNat) (v 6 n.toNat).toNat < n then (if w = 4 then n else mCo s n (1 + w)) else mOf s l k w := by
    intro k w hk hw
    unfold mHearC
    rw [D_of hl5 hn hk hw hcD, hB4, hcB 0 (by decide), c2, hcB _ (by omega), B_of hl5 (by omega) hn hk hw]
  have hheard : ∀ v' : Nat → Nat → Int, v' 8 = up1 (v 8) n.toNat (zor (v 8 n.toNat) (zshl 1 l)) → heardR v' (mHearC s l n) := by
    intro v' hv8 m m1 m2
    rw [e2] at m2
    obtain ⟨p1, p2⟩ := r4 m m1 m2
    rw [hv8]
    by_cases hmn : m = n
    · subst hmn
      rw [up1_eq]
      refine ⟨zor_lt p1 (by omega), fun j j0 j6 => ?_⟩
      rw [tb_or (by omega) (by omega), p2 j j0 j6, sameOut_hd hs hl5 (j := 3) (by decide)]
      by_cases hj : j = l
      · subst hj
        rw [heard_B (s' := mHearC s j m) hl.1 hn ⟨m1, m2⟩ hM2.2 e2 (fun w w0 w1 => by
          unfold mHearC; rw [D_li hl5 (by omega) hcD, if_neg (by omega)])]
        simp [hl.2]
      · by_cases hj3 : j < s 3
        · have e9 : mHeard (mHearC s l m) j m = mHeard s j m := by
            rw [mHeard_tb, mHeard_tb, e2, li_out hs hl5 (by omega) hj (by omega)]
          rw [e9]; simp [hj]
        · simp [hj, hj3]
    · rw [up1_ne (by omega)]
      refine ⟨p1, fun j j0 j6 => ?_⟩
      rw [p2 j j0 j6, sameOut_hd hs hl5 (j := 3) (by decide)]
      have h5 := tdiv32 (n := m) (by omega)
      by_cases hj : j = l
      · subst hj
        rw [heard_B (s' := mHearC s j n) hl.1 hn ⟨m1, m2⟩ hM2.2 e2 (fun w w0 w1 => by
          unfold mHearC; rw [D_li hl5 (by omega) hcD, if_neg (by omega)])]
        simp [hmn]
      · by_cases hj3 : j < s 3
        · have e9 : mHeard (mHearC s l n) j m = mHeard s j m := by
            rw [mHeard_tb, mHeard_tb, e2, li_out hs hl5 (by omega) hj (by omega)]
          rw [e9]
        · simp [hj3]
  have hg4 := (hM.2.2.2.2.2.2.2 l hl.1 hl.2).2.2
  by_cases hc : n ≤ v (106 + 4 * l.toNat) (v 6 n.toNat).toNat
  · rw [if_pos hc]
    refine rel_listener h hM hl hs (fun q q1 q2 q3 => ?_) ?_ ?_ (hheard _ ?_)
    · rw [upm_rf q3, upm_rf q1, upm_rf q1]
    · unfold lis1
      rw [gD 0 (by decide) (by decide), gD 1 (by decide) (by decide), gD 10 (by decide) (by decide), gD 11 (by decide) (by decide), gD 12 (by decide) (by decide), gD 13 (by decide) (by decide), gD 14 (by decide) (by decide), e2]
      simp only [upm_r (show 103 + 4 * l.toNat ≠ 8 by omega)]
      refine ⟨?_, ?_, ?_, ?_, ?_, ?_, ?_, ?_, ?_, fun i i0 i1 => ?_⟩
      · rw [upm_i (by decide), upm_i (by decide), if_neg (by omega), if_neg (by omega), if_neg (by omega)]; exact a1
      · rw [upm_i (by decide), upm_i (by decide), if_neg (by omega), if_neg (by omega), if_neg (by omega)]; exact a2
      · rw [upm_i (by decide), upm_i (by decide), if_neg (by omega), if_neg (by omega), if_neg (by omega)]; exact a3
      · rw [upm_i (by decide), upm_eq, if_neg (by omega), if_neg (by omega), if_pos trivial, a4]; omega
      · rw [upm_eq, if_pos ⟨trivial, by omega⟩, a5]
      · rw [upm_i (by decide), upm_i (by decide), if_neg (by omega), if_neg (by omega), if_neg (by omega)]; exact a6
      · rw [upm_i (by decide), upm_i (by decide), if_neg (by omega), if_neg (by omega), if_neg (by omega)]; exact a7
      · rw [if_neg (by omega), if_neg (by omega), if_neg (by omega)]; exact a8
      · rw [if_neg (by omega), if_neg (by omega), if_pos trivial]; omega
      · rw [if_neg (by omega), if_neg (by omega), if_neg (by omega)] at i1
        rw [gD _ (by omega) (by omega), gD _ (by omega) (by omega), if_neg (by omega), if_neg (by omega), if_neg (by omega), if_neg (by omega), if_neg (by omega), if_neg (by omega), upm_rf (by omega), upm_rf (by omega), upm_rf (by omega), upm_rf (by omega), upm_rf (by omega), upm_rf (by omega)]
        exact a10 i i0 i1
    · rw [hql]
      refine slR_congr r5 (fun q q1 q2 => by rw [upm_rf (by omega), upm_rf (by omega), upm_rf (by omega)]) (fun j _ => by rw [upm_rf (by omega), upm_rf (by omega), upm_rf (by omega)]) (Int.le_refl _) (fun k w k0 k1 w0 w1 => ?_)
      rw [gO k w ⟨k0, k1⟩ ⟨w0, w1⟩, if_neg (by omega)]
    · rw [upm_row, upm_rf (by omega), upm_rf (by omega)]
  · rw [if_neg hc]
    refine rel_listener h hM hl hs (fun q q1 q2 q3 => ?_) ?_ ?_ (hheard _ ?_)
    · rw [upm_rf q3, upm_rf q2, upm_rf q1]
    · unfold lis1
      rw [gD 0 (by decide) (by decide), gD 1 (by decide) (by decide), gD 10 (by decide) (by decide), gD 11 (by decide) (by decide), gD 12 (by decide) (by decide), gD 13 (by decide) (by decide), gD 14 (by decide) (by decide), e2]
      simp only [upm_r (show 103 + 4 * l.toNat ≠ 8 by omega), upm_r (show 103 + 4 * l.toNat ≠ 106 + 4 * l.toNat by omega)]
      refine ⟨?_, ?_, ?_, ?_, ?_, ?_, ?_, ?_, ?_, fun i i0 i1 => ?_⟩
      · rw [upm_i (by decide), if_neg (by omega), if_neg (by omega), if_neg (by omega)]; exact a1
      · rw [upm_i (by decide), if_neg (by omega), if_neg (by omega), if_neg (by omega)]; exact a2
      · rw [upm_i (by decide), if_neg (by omega), if_neg (by omega), if_neg (by omega)]; exact a3
      · rw [upm_eq, if_neg (by omega), if_neg (by omega), if_pos trivial, a4]; omega
      · rw [upm_i (by decide), if_neg (by omega), if_neg (by omega), if_neg (by omega)]; exact a5
      · rw [upm_i (by decide), if_neg (by omega), if_neg (by omega), if_neg (by omega)]; exact a6
      · rw [upm_i (by decide), if_neg (by omega), if_neg (by omega), if_neg (by omega)]; exact a7
      · rw [if_neg (by omega), if_neg (by omega), if_neg (by omega)]; exact a8
      · rw [if_neg (by omega), if_neg (by omega), if_pos trivial]; omega
      · rw [if_neg (by omega), if_neg (by omega), if_neg (by omega)] at i1
        rw [gD _ (by omega) (by omega), gD _ (by omega) (by omega), if_neg (by omega), if_neg (by omega), if_neg (by omega), if_neg (by omega), if_neg (by omega), if_neg (by omega), upm_rf (by omega), upm_rf (by omega), upm_rf (by omega), upm_rf (by omega), upm_rf (by omega), upm_rf (by omega)]
        exact a10 i i0 i1
    · rw [hql]
      intro k k0 k1
      have hv6 : upm (upm (upm v (103 + 4 * l.toNat) 6 (max (v (103 + 4 * l.toNat) 6) n)) (106 + 4 * l.toNat) (v 6 n.toNat).toNat n) 8 n.toNat (zor (v 8 n.toNat) (zshl 1 l)) 6 = v 6 := by
        rw [upm_rf (by omega), upm_rf (by omega), upm_rf (by omega)]
      rw [hv6, vW_congr (v := v) (fun q q1 q2 => by rw [upm_rf (by omega), upm_rf (by omega), upm_rf (by omega)]), upm_r (by omega), gO k 4 ⟨k0, k1⟩ (by decide)]
      by_cases hk : k = v 6 n.toNat
      · rw [if_pos ⟨hk, by omega⟩, if_pos rfl]
        have ek : upm (upm v (103 + 4 * l.toNat) 6 (max (v (103 + 4 * l.toNat) 6) n)) (106 + 4 * l.toNat) (v 6 n.toNat).toNat n (106 + 4 * l.toNat) k.toNat = n := by rw [hk]; exact upm_eq
        rw [ek]
        refine ⟨by omega, fun _ => hk.symm, rfl, fun w w0 w1 => ?_⟩
        rw [gO k w ⟨k0, k1⟩ ⟨w0, by omega⟩, if_pos ⟨hk, by omega⟩, if_neg (by omega), c3 w w0 w1]
        unfold rowI; rw [if_neg (by omega)]
      · rw [if_neg (fun q => hk q.1), upm_i (by omega), upm_r (by omega)]
        obtain ⟨t1, t2, t3, t4⟩ := r5 k k0 k1
        refine ⟨t1, t2, t3, fun w w0 w1 => ?_⟩
        rw [gO k w ⟨k0, k1⟩ ⟨w0, by omega⟩, if_neg (fun q => hk q.1)]
        exact t4 w w0 w1
    · rw [upm_row, upm_rf (by omega), upm_rf (by omega)]
