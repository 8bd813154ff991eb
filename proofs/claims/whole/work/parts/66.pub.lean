/-! ===== a correction is published ===== -/
def mPubW (s : Nat → Int) (k : Int) : Nat → Int := up1 (up1 s 2 (s 2 + 1)) (550 + 6 * (s 2 + 1 - 1) + 0).toNat k
def mPub0 (s : Nat → Int) (k : Int) : Nat → Int :=
  up1 (up1 (a_cpy (mPubW s k) (mPubW s k) (16 + 60 * (-1 + 1) + 5 * k).toNat (550 + 6 * (s 2 + 1 - 1) + 1).toNat 4) (550 + 6 * (s 2 + 1 - 1) + 5).toNat (s 1)) (16 + 60 * (-1 + 1) + 5 * k + 4).toNat (s 2 + 1)
def mSet4 (s : Nat → Int) (k : Int) (f : Int → Int) : Nat → Int :=
  up1 (up1 (up1 (up1 s (16 + 60 * (-1 + 1) + 5 * k + 0).toNat (f 0)) (16 + 60 * (-1 + 1) + 5 * k + 1).toNat (f 1)) (16 + 60 * (-1 + 1) + 5 * k + 2).toNat (f 2)) (16 + 60 * (-1 + 1) + 5 * k + 3).toNat (f 3)
/-- no listener has heard a number that is still to come -/
def frs (s : Nat → Int) : Prop := ∀ l n, 0 ≤ l → l < s 3 → s 2 < n → n ≤ 99 → tb (mLi s l (15 + n.tdiv 32)) (n.tmod 32) = false
theorem pub0_hd {s : Nat → Int} {k : Int} {j : Nat} (h2 : 0 ≤ s 2 ∧ s 2 < 99) (hk : 0 ≤ k ∧ k < 12) (hj : j ≠ 2) (h : j < 16 ∨ 76 ≤ j ∧ (j : Int) < 550 ∨ 1150 ≤ j) : mPub0 s k j = s j := by
  unfold mPub0 mPubW
  rw [up1_ne (by omega), up1_ne (by omega), cpy_out (by omega), up1_ne (by omega), up1_ne hj]
theorem pub0_2 {s : Nat → Int} {k : Int} (h2 : 0 ≤ s 2 ∧ s 2 < 99) (hk : 0 ≤ k ∧ k < 12) : mPub0 s k 2 = s 2 + 1 := by
  unfold mPub0 mPubW
  rw [up1_ne (by omega), up1_ne (by omega), cpy_out (by omega), up1_ne (by omega), up1_eq]
theorem pub0_of {s : Nat → Int} {k j w : Int} (h2 : 0 ≤ s 2 ∧ s 2 < 99) (hk : 0 ≤ k ∧ k < 12) (hj : 0 ≤ j ∧ j < 12) (hw : 0 ≤ w ∧ w < 5) : mOf (mPub0 s k) (-1) j w = if j = k ∧ w = 4 then s 2 + 1 else mOf s (-1) j w := by
  unfold mOf mPub0 mPubW
  by_cases h : j = k ∧ w = 4
  · rw [if_pos h, h.1, h.2]; exact up1_eq
  · rw [if_neg h, up1_ne (by omega), up1_ne (by omega), cpy_out (by omega), up1_ne (by omega), up1_ne (by omega)]
theorem pub0_co {s : Nat → Int} {k n w : Int} (h2 : 0 ≤ s 2 ∧ s 2 < 99) (hk : 0 ≤ k ∧ k < 12) (hn : 1 ≤ n ∧ n ≤ 99) (hw : 0 ≤ w ∧ w < 6) : mCo (mPub0 s k) n w = if n = s 2 + 1 then (if w = 0 then k else if w = 5 then s 1 else mOf s (-1) k (w - 1)) else mCo s n w := by
  unfold mCo mPub0
  by_cases h : n = s 2 + 1
  · rw [if_pos h, up1_ne (by omega)]
    by_cases h5 : w = 5
    · rw [if_neg (by omega), if_pos h5, h, h5]; exact up1_eq
    · rw [up1_ne (by omega)]
      by_cases h0 : w = 0
      · rw [if_pos h0, cpy_out (by omega), h, h0]; unfold mPubW; exact up1_eq
      · rw [if_neg h0, if_neg h5, cpy_in (by omega) (by omega)]
        unfold mPubW mOf
        rw [up1_ne (by omega), up1_ne (by omega)]; congr 1; omega
  · rw [if_neg h, up1_ne (by omega), up1_ne (by omega), cpy_out (by omega)]
    unfold mPubW
    rw [up1_ne (by omega), up1_ne (by omega)]
theorem set4_out {s : Nat → Int} {k : Int} {f : Int → Int} {j : Nat} (hk : 0 ≤ k ∧ k < 12) (h : (j : Int) < 16 + 5 * k ∨ 16 + 5 * k + 3 < j) : mSet4 s k f j = s j := by
  unfold mSet4
  rw [up1_ne (by omega), up1_ne (by omega), up1_ne (by omega), up1_ne (by omega)]
theorem set4_of {s : Nat → Int} {k j w : Int} {f : Int → Int} (hk : 0 ≤ k ∧ k < 12) (hj : 0 ≤ j ∧ j < 12) (hw : 0 ≤ w ∧ w < 5) : mOf (mSet4 s k f) (-1) j w = if j = k ∧ w < 4 then f w else mOf s (-1) j w := by
  unfold mOf mSet4
  by_cases h : j = k
  · have : w = 0 ∨ w = 1 ∨ w = 2 ∨ w = 3 ∨ w = 4 := by omega
    rcases this with rfl | rfl | rfl | rfl | rfl
    · rw [if_pos ⟨h, by decide⟩, up1_ne (by omega), up1_ne (by omega), up1_ne (by omega), h, up1_eq]
    · rw [if_pos ⟨h, by decide⟩, up1_ne (by omega), up1_ne (by omega), h, up1_eq]
    · rw [if_pos ⟨h, by decide⟩, up1_ne (by omega), h, up1_eq]
    · rw [if_pos ⟨h, by decide⟩, h, up1_eq]
    · rw [if_neg (by omega), up1_ne (by omega), up1_ne (by omega), up1_ne (by omega), up1_ne (by omega)]
  · rw [if_neg (fun q => h q.1), up1_ne (by omega), up1_ne (by omega), up1_ne (by omega), up1_ne (by omega)]
/-- the relation when a correction is told and the published list has it -/
theorem rel_tell {v v' : Nat → Nat → Int} {b : Nat → Nat} {C : List (Nat → Int)} {s s' : Nat → Int} {c k : Int} {f : Int → Int} (h : RelC v b C s) (hM : MI c s) (hx : frs s) (h99 : s 2 < 99) (hk : 0 ≤ k ∧ k < 12) (hf : wfS f)
    (hv : ∀ x, x = 0 ∨ 10 ≤ x → v' x = v x) (hv1 : v' 1 7 = s 2 + 1)
    (hT : ∀ j : Nat, (j : Int) < 12 + s 2 → v' 2 j = v 2 j ∧ v' 3 j = v 3 j ∧ v' 4 j = v 4 j ∧ v' 5 j = v 5 j) (hTn : ∀ w, 0 ≤ w → w < 4 → vW v' (12 + s 2) w = f w)
    (h6 : ∀ j : Nat, (j : Int) ≤ s 2 → v' 6 j = v 6 j ∧ v' 7 j = v 7 j ∧ v' 8 j = v 8 j) (h6n : v' 6 (s 2 + 1).toNat = k) (h7n : v' 7 (s 2 + 1).toNat = s 1) (h8n : v' 8 (s 2 + 1).toNat = 0)
    (h9 : ∀ j, j < 12 → v' 9 j = if j = k.toNat then s 2 + 1 else v 9 j)
    (hs : ∀ j, j ≠ 2 → j < 16 → s' j = s j) (hs2 : s' 2 = s 2 + 1) (hsl : ∀ j : Nat, 76 ≤ j → j < 550 ∨ 1150 ≤ j → s' j = s j)
    (hO : ∀ j w, 0 ≤ j → j < 12 → 0 ≤ w → w < 5 → mOf s' (-1) j w = if j = k then (if w = 4 then s 2 + 1 else f w) else mOf s (-1) j w)
    (hC : ∀ n w, 1 ≤ n → n ≤ s 2 → 0 ≤ w → w < 6 → mCo s' n w = mCo s n w) (hCn : mCo s' (s 2 + 1) 0 = k ∧ mCo s' (s 2 + 1) 5 = s 1 ∧ ∀ w, 0 ≤ w → w < 4 → mCo s' (s 2 + 1) (1 + w) = f w) :
    RelC v' b C s' := by
  obtain ⟨r1, r2, r3, r4, r5, r6, r7⟩ := h
  have hM2 := hM.2.2.1
  have hM3 := hM.2.2.2.1
  have hA := hM.2.2.2.2.2.1
  have hL := hM.2.2.2.2.2.2.2
  have hlen := airR_len r7
  have e3 := hs 3 (by decide) (by decide)
  have e4 := hs 4 (by decide) (by decide)
  have e1 := hs 1 (by decide) (by decide)
  have vTl : ∀ c, 2 ≤ c → c ≤ 5 → ∀ j : Nat, (j : Int) < 12 + s 2 → v' c j = v c j := by
    intro c c2 c5 j hj
    have : c = 2 ∨ c = 3 ∨ c = 4 ∨ c = 5 := by omega
    obtain ⟨t1, t2, t3, t4⟩ := hT j hj
    rcases this with rfl | rfl | rfl | rfl
    · exact t1
    · exact t2
    · exact t3
    · exact t4
  have v6l : ∀ j : Nat, (j : Int) < 1 + s 2 → v' 6 j = v 6 j := fun j hj => (h6 j (by omega)).1
  have hli : ∀ l x, 0 ≤ l → l ≤ 5 → 0 ≤ x → x < 19 → mLi s' l x = mLi s l x := fun l x l0 l5 x0 x1 => by simp only [mLi]; exact hsl _ (by omega) (by omega)
  have sl_mono : ∀ {q n : _} {g : Int → Int → Int}, slR v q n g → n = s 2 → (∀ j, j < 12 → v' q j = v q j) → slR v' q (s 2 + 1) g := by
    intro q n g hq hn hqv
    subst hn
    have h1 := slR_live hq vTl v6l hqv
    intro k k0 k1
    obtain ⟨a1, a2, a3, a4⟩ := h1 k k0 k1
    exact ⟨⟨a1.1, by omega⟩, a2, a3, a4⟩
  have hA' : airL s' = airL s := by
    unfold airL
    rw [e4]
    exact List.map_congr_left fun i _ => blk_ne (fun j hj => hsl j (by omega) (by omega)) i
  refine ⟨?_, fun row w0 w1 => ?_, fun n n1 n2 => ?_, fun n n1 n2 => ?_, fun l l0 l1 => ?_, fun l l0 l1 => ?_, r7.1, r7.2.1, by rw [hA']; exact r7.2.2.1, r7.2.2.2.1, fun p hp => ?_⟩
  · obtain ⟨a1, a2, a3, a4, a5, a6, a7⟩ := r1
    refine ⟨?_, ?_, ?_, ?_, ?_, ?_, ?_⟩
    · rw [hv 0 (.inl rfl), e3]; exact a1
    · rw [hv 0 (.inl rfl), hs 0 (by decide) (by decide)]; exact a2
    · rw [hv 0 (.inl rfl), e1]; exact a3
    · rw [hv 0 (.inl rfl), hs 5 (by decide) (by decide)]; exact a4
    · rw [hv 0 (.inl rfl), hs 6 (by decide) (by decide)]; exact a5
    · rw [hs2]; exact hv1
    · rw [hv 10 (.inr (by decide)), e4]; exact a7
  · rw [hs2] at w1
    by_cases hr : row < 12 + s 2
    · have := r2 row w0 hr
      unfold wfS at *
      rw [vW_live vTl w0 hr, vW_live vTl w0 hr, vW_live vTl w0 hr, vW_live vTl w0 hr]
      exact this
    · have hr2 : row = 12 + s 2 := by omega
      subst hr2
      unfold wfS at *
      rw [hTn 0 (by decide) (by decide), hTn 1 (by decide) (by decide), hTn 2 (by decide) (by decide), hTn 3 (by decide) (by decide)]
      exact hf
  · rw [hs2] at n2
    by_cases hn : n ≤ s 2
    · obtain ⟨a1, a2, a3, a4⟩ := r3 n n1 hn
      obtain ⟨t1, t2, t3⟩ := h6 n.toNat (by omega)
      rw [t1, t2, hC n 0 n1 hn (by decide) (by decide), hC n 5 n1 hn (by decide) (by decide)]
      exact ⟨a1, a2, fun w w0 w1 => by rw [hC n (1 + w) n1 hn (by omega) (by omega), a3 w w0 w1, vW_live vTl (by omega) (by omega)], a4⟩
    · have hn2 : n = s 2 + 1 := by omega
      subst hn2
      rw [h6n, h7n]
      refine ⟨hk, hCn.1, fun w w0 w1 => ?_, hCn.2.1⟩
      rw [hCn.2.2 w w0 w1, show 11 + (s 2 + 1) = 12 + s 2 from by omega, hTn w w0 w1]
  · rw [hs2] at n2
    have hmh : ∀ l m, 0 ≤ l → l < s 3 → 1 ≤ m → m ≤ s 2 + 1 → mHeard s' l m = tb (mLi s l (15 + m.tdiv 32)) (m.tmod 32) := by
      intro l m l0 l3 m1 m2
      have h9 := tdiv32 (n := m) (by omega)
      rw [mHeard_tb, hs2, inB_t m1 m2, Bool.true_and, hli l _ l0 (by omega) (by omega) (by omega)]
    by_cases hn : n ≤ s 2
    · obtain ⟨t1, t2, t3⟩ := h6 n.toNat (by omega)
      obtain ⟨a1, a2⟩ := r4 n n1 hn
      rw [t3]
      refine ⟨a1, fun l l0 l6 => ?_⟩
      rw [a2 l l0 l6, e3]
      by_cases hl : l < s 3
      · rw [hmh l n l0 hl n1 (by omega), mHeard_tb, inB_t n1 hn, Bool.true_and]
      · simp [hl]
    · have hn2 : n = s 2 + 1 := by omega
      subst hn2
      rw [h8n]
      refine ⟨by decide, fun l l0 l6 => ?_⟩
      rw [tb_zero (by omega), e3]
      by_cases hl : l < s 3
      · rw [hmh l _ l0 hl n1 (by omega), hx l (s 2 + 1) l0 hl (by omega) (by omega)]; simp
      · simp [hl]
  · rw [e3] at l1
    rw [hs2]
    by_cases hl : l = -1
    · subst hl
      have r9 := r5 (-1) (by decide) l1
      have hq9 : qOf (-1) = 9 := by unfold qOf; rw [if_pos rfl]
      rw [hq9] at r9 ⊢
      intro j j0 j1
      obtain ⟨a1, a2, a3, a4⟩ := r9 j j0 j1
      rw [h9 _ (by omega)]
      by_cases hj : j = k
      · rw [if_pos (by rw [hj]), hO j 4 j0 j1 (by decide) (by decide), if_pos hj, if_pos rfl]
        refine ⟨by omega, fun _ => by rw [h6n]; exact hj.symm, rfl, fun w w0 w1 => ?_⟩
        rw [hO j w j0 j1 w0 (by omega), if_pos hj, if_neg (by omega)]
        unfold rowI
        rw [if_neg (by omega), show 11 + (s 2 + 1) = 12 + s 2 from by omega, hTn w w0 w1]
      · rw [if_neg (by omega), hO j 4 j0 j1 (by decide) (by decide), if_neg hj]
        refine ⟨⟨a1.1, by omega⟩, fun h0 => by rw [v6l _ (by omega)]; exact a2 h0, a3, fun w w0 w1 => ?_⟩
        rw [hO j w j0 j1 w0 (by omega), if_neg hj, a4 w w0 w1, vW_live vTl (by unfold rowI; split <;> omega) (by unfold rowI; split <;> omega)]
    · have hq : qOf l = 106 + 4 * l.toNat := by unfold qOf; rw [if_neg hl]
      have hf' : ∀ j w, 0 ≤ j → j < 12 → 0 ≤ w → w < 5 → mOf s' l j w = mOf s l j w := fun j w j0 j1 w0 w1 => by simp only [mOf]; exact hsl _ (by omega) (by omega)
      have h1 := sl_mono (r5 l l0 l1) rfl (fun j hj => by rw [hv (qOf l) (by omega)])
      intro j j0 j1
      obtain ⟨a1, a2, a3, a4⟩ := h1 j j0 j1
      rw [hf' j 4 j0 j1 (by decide) (by decide)]
      exact ⟨a1, a2, a3, fun w w0 w1 => by rw [hf' j w j0 j1 w0 (by omega)]; exact a4 w w0 w1⟩
  · rw [e3] at l1
    have hg := (hL l l0 l1).2
    obtain ⟨a1, a2, a3, a4, a5, a6, a7, a8, a9, a10⟩ := r6 l l0 l1
    unfold lis1
    rw [hv (103 + 4 * l.toNat) (by omega), hv (104 + 4 * l.toNat) (by omega), hv (105 + 4 * l.toNat) (by omega), hs2, hli l 0 l0 (by omega) (by decide) (by decide), hli l 1 l0 (by omega) (by decide) (by decide), hli l 10 l0 (by omega) (by decide) (by decide), hli l 11 l0 (by omega) (by decide) (by decide), hli l 12 l0 (by omega) (by decide) (by decide), hli l 13 l0 (by omega) (by decide) (by decide), hli l 14 l0 (by omega) (by decide) (by decide)]
    refine ⟨a1, a2, a3, a4, a5, a6, a7, ⟨a8.1, by omega⟩, ⟨a9.1, by omega⟩, fun i i0 i1 => ?_⟩
    rw [hli l _ l0 (by omega) (by omega) (by omega), hli l _ l0 (by omega) (by omega) (by omega)]
    exact a10 i i0 i1
  · obtain ⟨a1, a2, a3, a4, a5, a6, a7, a8, a9, a10, a11, a12⟩ := r7.2.2.2.2 p hp
    unfold sgR
    rw [hv (12 + 3 * b p) (by omega), hv (12 + 3 * b p + 1) (by omega), e3, hs2, e1]
    refine ⟨a1, ?_, a3, a4, a5, a6, a7, a8, a9, ⟨a10.1, by omega⟩, a11, fun hc => sl_mono (a12 hc) rfl (fun j hj => by rw [hv _ (by omega)])⟩
    rw [a2]
    by_cases hc : C[p] 0 = 1
    · rw [if_pos hc, if_pos hc]
    · rw [if_neg hc, if_neg hc, v6l _ (by omega)]
section PB
variable {L : Nat} {u : Nat → Nat → Int} {a : Nat → Nat → Nat} {t : Nat × Nat × Nat} {s : Nat → Int}
theorem M_publishes {k len : Int} (hk : 0 ≤ k ∧ k < 12) (h2 : 0 ≤ s 2 ∧ s 2 < 99) (h4 : 0 ≤ s 4 ∧ s 4 < 30) (h3 : 0 ≤ s 3 ∧ s 3 ≤ 6) (h7 : 0 ≤ s 7 ∧ s 7 < 1000000) (h1 : 0 ≤ s 1 ∧ s 1 ≤ 20000) (hlen : 0 ≤ len ∧ len ≤ 20) (hd : ∀ l, 0 ≤ l → l < s 3 → 0 ≤ mLi s l 0 ∧ mLi s l 0 ≤ 9) : a_m 279 [a_r 1557, a_i k, a_i len] (K0 L, upr u 1558 s, G a, t) = some (.inl (some (a_i (s 2 + 1))), (K0 L, upr u 1558 (mAirs (mPub0 s k) 0 (s 2 + 1) len), G a, t)) := by
  have hW : up1 (up1 s 2 (s 2 + 1)) (550 + 6 * (s 2 + 1 - 1) + 0).toNat k = mPubW s k := rfl
  have hai := M_airs (L := L) (u := u) (a := a) (t := t) (s := mPub0 s k) (w := 0) (n := s 2 + 1) (len := len) (.inl rfl) (by rw [pub0_hd h2 hk (by decide) (by decide)]; exact h4) (by rw [pub0_hd h2 hk (by decide) (by decide)]; exact h3) (by rw [pub0_hd h2 hk (by decide) (by decide)]; exact h7) (by rw [pub0_hd h2 hk (by decide) (by decide)]; exact h1) hlen (fun l l0 l3 => by
    rw [pub0_hd h2 hk (by decide) (by decide)] at l3
    simp only [mLi]; rw [pub0_hd h2 hk (by omega) (by omega)]; exact hd l l0 l3)
  have w1 : mPubW s k 1 = s 1 := by unfold mPubW; rw [up1_ne (by omega), up1_ne (by decide)]
  simp (disch := first | assumption | omega | (simp only [upr_f, upr_eq, thr58]; first | assumption | omega)) only [E_X11_publishes, B_X11_publishes_0, B_X11_publishes_34, B_X11_publishes_115, Option.bind_some, back_v, Option.toList_some, Option.toList_none, List.cons_append, List.nil_append, Nat.reduceAdd, Int.reduceToNat, Int.reduceNeg, upm_eq, upm_r, upm_i, if_pos, if_neg, ite_self, true_or, or_true, true_and, and_true, false_or, or_false, false_and, and_false, wr_id, i10, i01, upr_f, upr_eq, thr58, upm_upr, upr_upr, lc_lt, lc_gt, lc_ge, lc_le, afit1, afit0, afitI, bifit, not_true_eq_false, not_false_eq_true, if_true, if_false, Bool.false_eq_true, reduceCtorEq, k1557, k1558, g1557_2, M_slotOf, up1_eq, up1_ne, hW]
  have key := it_fwd (n := 4) (P := fun i : Nat => a_X 279 49 [a_r 1557, a_i k, a_i len, a_i (s 2 + 1), a_i (550 + 6 * (s 2 + 1 - 1)), a_i (16 + 60 * (-1 + 1) + 5 * k), a_i (i : Int)] [] (K0 L, upr u 1558 (a_cpy (mPubW s k) (mPubW s k) (16 + 60 * (-1 + 1) + 5 * k).toNat (550 + 6 * (s 2 + 1 - 1) + 1).toNat i), G a, t)) (fun i hi => by
    rw [B_X11_publishes_49]
    simp (disch := first | assumption | omega | (simp only [upr_f, upr_eq, thr58]; first | assumption | omega)) only [B_X11_publishes_0, B_X11_publishes_34, B_X11_publishes_115, Option.bind_some, back_v, Option.toList_some, Option.toList_none, List.cons_append, List.nil_append, Nat.reduceAdd, Int.reduceToNat, Int.reduceNeg, upm_eq, upm_r, upm_i, if_pos, if_neg, ite_self, true_or, or_true, true_and, and_true, false_or, or_false, false_and, and_false, wr_id, i10, i01, upr_f, upr_eq, thr58, upm_upr, upr_upr, lc_lt, lc_gt, lc_ge, lc_le, afit1, afit0, afitI, bifit, not_true_eq_false, not_false_eq_true, if_true, if_false, Bool.false_eq_true, reduceCtorEq, k1557, k1558, g1557_2]
    rw [cpy_out (by omega), show (550 + 6 * (s 2 + 1 - 1) + 1 + (i : Int)).toNat = (550 + 6 * (s 2 + 1 - 1) + 1).toNat + i from by omega, show (16 + 60 * (-1 + 1) + 5 * k + (i : Int)).toNat = (16 + 60 * (-1 + 1) + 5 * k).toNat + i from by omega, cpy1]
    rfl)
  rw [cpy0] at key
  refine (show _ = _ from key).trans ?_
  rw [B_X11_publishes_49]
  have hP : up1 (up1 (a_cpy (mPubW s k) (mPubW s k) (16 + 60 * (-1 + 1) + 5 * k).toNat (550 + 6 * (s 2 + 1 - 1) + 1).toNat 4) (550 + 6 * (s 2 + 1 - 1) + 5).toNat (s 1)) (16 + 60 * (-1 + 1) + 5 * k + 4).toNat (s 2 + 1) = mPub0 s k := rfl
  have c1 : a_cpy (mPubW s k) (mPubW s k) (16 + 60 * (-1 + 1) + 5 * k).toNat (550 + 6 * (s 2 + 1 - 1) + 1).toNat 4 1 = s 1 := by rw [cpy_out (by omega), w1]
  simp (disch := first | assumption | omega | (simp only [upr_f, upr_eq, thr58]; first | assumption | omega)) only [B_X11_publishes_0, B_X11_publishes_34, B_X11_publishes_115, Option.bind_some, back_v, Option.toList_some, Option.toList_none, List.cons_append, List.nil_append, Nat.reduceAdd, Int.reduceToNat, Int.reduceNeg, upm_eq, upm_r, upm_i, if_pos, if_neg, ite_self, true_or, or_true, true_and, and_true, false_or, or_false, false_and, and_false, wr_id, i10, i01, upr_f, upr_eq, thr58, upm_upr, upr_upr, lc_lt, lc_gt, lc_ge, lc_le, afit1, afit0, afitI, bifit, not_true_eq_false, not_false_eq_true, if_true, if_false, Bool.false_eq_true, reduceCtorEq, k1557, k1558, g1557_2, c1, hP, hai]
end PB
