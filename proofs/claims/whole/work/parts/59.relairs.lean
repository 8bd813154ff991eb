/-! ===== the relation is kept when something goes on the air, and when it ends ===== -/
theorem airL_airs {s : Nat → Int} {w n len : Int} (h4 : 0 ≤ s 4) : airL (mAirs s w n len) = airL s ++ [blk (mAirs s w n len) (s 4).toNat] := by
  unfold airL
  rw [airs_4, show (s 4 + 1).toNat = (s 4).toNat + 1 from by omega, List.range_succ, List.map_append, List.map_singleton]
  congr 1
  refine List.map_congr_left fun i hi => ?_
  have hi := List.mem_range.mp hi
  funext c
  unfold blk
  split
  · rw [airs_hi (by omega)]; simp only [airF]; rw [if_neg (by omega)]
  · rfl
theorem blk_new {s : Nat → Int} {w n len : Int} {c : Nat} (h4 : 0 ≤ s 4) (hc : c < 71) : blk (mAirs s w n len) (s 4).toNat c = airC s w n len c := by
  rw [blk_at hc, airs_hi (by omega)]; simp only [airF]; rw [if_pos (by omega)]; congr 1; omega
/-- a sorted row with one put in -/
theorem put_sorted {C : List (Nat → Int)} {x : Nat → Int} {q : Nat} (hC : C.Pairwise (fun b c => bRank b < bRank c)) (hq : q ≤ C.length) (h1 : ∀ (j : Nat) (hj : j < C.length), q ≤ j → bRank x < bRank C[j]) (h2 : ∀ (j : Nat) (hj : j < C.length), j < q → bRank C[j] < bRank x) : (C.take q ++ x :: C.drop q).Pairwise (fun b c => bRank b < bRank c) := by
  rw [List.pairwise_append]
  refine ⟨hC.sublist (List.take_sublist _ _), ?_, ?_⟩
  · rw [List.pairwise_cons]
    refine ⟨fun y hy => ?_, hC.sublist (List.drop_sublist _ _)⟩
    obtain ⟨j, hj, hy2⟩ := List.mem_iff_getElem.mp hy
    rw [List.getElem_drop] at hy2
    rw [← hy2]
    exact h1 _ (by rw [List.length_drop] at hj; omega) (by omega)
  · intro y hy z hz
    obtain ⟨j, hj, hy2⟩ := List.mem_iff_getElem.mp hy
    rw [List.length_take] at hj
    rw [List.getElem_take] at hy2
    have hyx : bRank y < bRank x := by rw [← hy2]; exact h2 j (by omega) (by omega)
    rcases List.mem_cons.mp hz with hz2 | hz2
    · rw [hz2]; exact hyx
    · obtain ⟨k, hk, hz3⟩ := List.mem_iff_getElem.mp hz2
      rw [List.getElem_drop] at hz3
      have := h1 (q + k) (by rw [List.length_drop] at hk; omega) (by omega)
      rw [hz3] at this
      omega
theorem put_perm {C : List (Nat → Int)} {x : Nat → Int} {q : Nat} : (C.take q ++ x :: C.drop q).Perm (C ++ [x]) := by
  have h := List.perm_middle (a := x) (l₁ := C.take q) (l₂ := C.drop q)
  rw [List.take_append_drop] at h
  exact h.trans (List.perm_append_comm (l₁ := [x]) (l₂ := C))
theorem put_get {C : List (Nat → Int)} {x : Nat → Int} {q p : Nat} (hq : q ≤ C.length) (hp : p < (C.take q ++ x :: C.drop q).length) : (C.take q ++ x :: C.drop q)[p] = if h : p < q then C[p] else if h2 : p = q then x else C[p - 1]'(by rw [List.length_append, List.length_cons, List.length_take, List.length_drop] at hp; omega) := by
  have hlt : (C.take q).length = q := by rw [List.length_take]; omega
  by_cases h1 : p < q
  · rw [dif_pos h1, List.getElem_append_left (by omega), List.getElem_take]
  · rw [dif_neg h1, List.getElem_append_right (by omega)]
    by_cases h2 : p = q
    · subst h2; rw [dif_pos rfl]; simp [hlt]
    · rw [dif_neg h2, List.getElem_cons, dif_neg (by omega), List.getElem_drop]
      congr 1; omega
theorem rel_airs {v v' : Nat → Nat → Int} {b : Nat → Nat} {C : List (Nat → Int)} {s : Nat → Int} {c w n len : Int} {q : Nat} (h : RelC v b C s) (hM : MI c s) (h4 : s 4 < 30) (h7 : s 7 < 1000000) (hw : w = 0 ∨ w = 1) (hn : 0 ≤ n ∧ n ≤ s 2) (hw0 : w = 0 → 1 ≤ n) (hlen : 1 ≤ len ∧ len ≤ 20) (hq : q ≤ C.length)
    (hq1 : ∀ (j : Nat) (hj : j < C.length), q ≤ j → (n < v (12 + 3 * b j) 0 ∨ (n = v (12 + 3 * b j) 0 ∧ w ≠ 1 ∧ v (12 + 3 * b j) 1 = -1)))
    (hq2 : ∀ (j : Nat) (hj : j < C.length), j + 1 = q → ¬ (n < v (12 + 3 * b j) 0 ∨ (n = v (12 + 3 * b j) 0 ∧ w ≠ 1 ∧ v (12 + 3 * b j) 1 = -1)))
    (hv : ∀ x, x ≠ 0 → x ≠ 10 → x ≠ 12 + 3 * b (s 4).toNat → x ≠ 12 + 3 * b (s 4).toNat + 1 → x ≠ 12 + 3 * b (s 4).toNat + 2 → v' x = v x)
    (hv0 : ∀ j, 4 ≤ j → j < 9 → j ≠ 7 → v' 0 j = v 0 j) (hv7 : v' 0 7 = wr (s 5 + w)) (hv10 : v' 10 1 = s 4 + 1)
    (e0 : v' (12 + 3 * b (s 4).toNat) 0 = n) (e1 : v' (12 + 3 * b (s 4).toNat) 1 = if w = 1 then -1 else v 6 n.toNat) (e2 : v' (12 + 3 * b (s 4).toNat) 2 = s 1) (e3 : v' (12 + 3 * b (s 4).toNat) 3 = len)
    (e4 : v' (12 + 3 * b (s 4).toNat) 4 = minW (s 3).toNat 0 (s 1 + 29) (fun l => s 1 + len + mLi s l 0)) (e5 : v' (12 + 3 * b (s 4).toNat) 5 = maxW (s 3).toNat 0 (s 1) (fun l => s 1 + len + mLi s l 0))
    (e6 : ∀ l, 0 ≤ l → l < s 3 → v' (12 + 3 * b (s 4).toNat + 1) l.toNat = s 1 + len + mLi s l 0) (e7 : w = 1 → ∀ k, k < 12 → v' (12 + 3 * b (s 4).toNat + 2) k = v 9 k) :
    RelC v' (shA b q (s 4).toNat (b (s 4).toNat)) (C.take q ++ blk (mAirs s w n len) (s 4).toNat :: C.drop q) (mAirs s w n len) := by
  obtain ⟨r1, r2, r3, r4, r5, r6, r7⟩ := h
  have hA := hM.2.2.2.2.2.1
  have hA0 := hA.1
  have hM3 := hM.2.2.2.1
  have hM2 := hM.2.2.1
  have hM7 := hM.2.2.2.2.1
  have hM1 := hM.2.1
  have hL := hM.2.2.2.2.2.2.2
  have hClen := airR_len r7
  have hbN := r7.1 (s 4).toNat (by omega)
  have ht : tldS v v' := fun x x1 x2 => hv x (by omega) (by omega) (by omega) (by omega) (by omega)
  have hs : ∀ j, j < 1150 → j ≠ 4 → j ≠ 5 → j ≠ 7 → mAirs s w n len j = s j := fun j h1 h2 h3 h5 => airs_hd h1 ⟨h2, h3, h5⟩
  have s2 : mAirs s w n len 2 = s 2 := hs 2 (by decide) (by decide) (by decide) (by decide)
  have s3 : mAirs s w n len 3 = s 3 := hs 3 (by decide) (by decide) (by decide) (by decide)
  have s1 : mAirs s w n len 1 = s 1 := hs 1 (by decide) (by decide) (by decide) (by decide)
  have hli : ∀ l x, 0 ≤ l → l ≤ 5 → 0 ≤ x → x < 19 → mLi (mAirs s w n len) l x = mLi s l x := fun l x l0 l5 x0 x1 => by simp only [mLi]; exact hs _ (by omega) (by omega) (by omega) (by omega)
  have hof : ∀ l k x, -1 ≤ l → l ≤ 5 → 0 ≤ k → k < 12 → 0 ≤ x → x < 5 → mOf (mAirs s w n len) l k x = mOf s l k x := fun l k x l0 l5 k0 k1 x0 x1 => by simp only [mOf]; exact hs _ (by omega) (by omega) (by omega) (by omega)
  generalize hx : blk (mAirs s w n len) (s 4).toNat = x
  have hxc : ∀ i, i < 71 → x i = airC s w n len i := fun i hi => by rw [← hx]; exact blk_new hA0 hi
  have x0 : x 0 = w := (hxc 0 (by decide)).trans rfl
  have x1 : x 1 = n := (hxc 1 (by decide)).trans rfl
  have x2 : x 2 = s 1 := (hxc 2 (by decide)).trans rfl
  have x3 : x 3 = len := (hxc 3 (by decide)).trans rfl
  have x4 : x 4 = s 7 := (hxc 4 (by decide)).trans rfl
  have xd : ∀ l, 0 ≤ l → l < s 3 → x (5 + l).toNat = s 1 + len + mLi s l 0 := fun l l0 l1 => by
    rw [show (5 + l).toNat = 5 + l.toNat from by omega, hxc _ (by omega), airC_due (by omega), show ((l.toNat : Nat) : Int) = l from by omega, if_pos l1]
  have xl : w = 1 → ∀ k y : Int, 0 ≤ k → k < 12 → 0 ≤ y → y < 5 → x (11 + 5 * k + y).toNat = mOf s (-1) k y := fun hw1 k y k0 k1 y0 y1 => by
    rw [show (11 + 5 * k + y).toNat = 11 + (5 * k + y).toNat from by omega, hxc _ (by omega), airC_list (by omega), if_pos hw1]
    simp only [mOf]; congr 1; omega
  -- ranks
  have hord : ∀ (j : Nat) (hj : j < C.length), C[j] 4 < s 7 ∧ (0 ≤ C[j] 4 ∧ C[j] 4 < 1000000) := by
    intro j hj
    have hm : C[j] ∈ airL s := r7.2.2.1.mem_iff.mp (List.getElem_mem hj)
    obtain ⟨i, i0, i4, hi⟩ := airL_of hm
    have g1 := (hM.2.2.2.2.2.2.1 i i0 i4).1
    have g2 := (hA.2.2 i i0 i4).2.2.1
    rw [mAi_blk i0 (by decide), ← hi] at g1 g2
    exact ⟨g1, g2⟩
  have hrk : bRank x = (2 * n + w) * 1000000 + s 7 := by unfold bRank; rw [x0, x1, x4]
  have hsgj : ∀ (j : Nat) (hj : j < C.length), v (12 + 3 * b j) 0 = C[j] 1 ∧ (C[j] 0 = 0 ∨ C[j] 0 = 1) ∧ (v (12 + 3 * b j) 1 = -1 ↔ C[j] 0 = 1) := by
    intro j hj
    have g := r7.2.2.2.2 j hj
    refine ⟨g.1, g.2.2.2.2.2.2.2.2.1, ?_⟩
    rw [g.2.1]
    by_cases hc1 : C[j] 0 = 1
    · rw [if_pos hc1]; simp [hc1]
    · rw [if_neg hc1]
      have h01 := g.2.2.2.2.2.2.2.2.1
      have hz : C[j] 0 = 0 := by omega
      have g11 := g.2.2.2.2.2.2.2.2.2.2.1 hz
      have g10 := g.2.2.2.2.2.2.2.2.2.1
      have := (r3 (C[j] 1) g11 g10.2).1
      constructor
      · intro h9; omega
      · intro h9; exact absurd h9 hc1
  have hC' : (C.take q ++ x :: C.drop q).Pairwise (fun b c => bRank b < bRank c) := by
    refine put_sorted r7.2.2.2.1 hq (fun j hj hqj => ?_) (fun j hj hjq => ?_)
    · have g := hq1 j hj hqj
      obtain ⟨g1, g2, g3⟩ := hsgj j hj
      have go := hord j hj
      rw [g1, g3] at g
      rw [hrk]; unfold bRank
      rcases g with g | ⟨g4, g5, g6⟩
      · omega
      · omega
    · -- the last of those ahead
      have hq0 : 0 < q := by omega
      have g := hq2 (q - 1) (by omega) (by omega)
      obtain ⟨g1, g2, g3⟩ := hsgj (q - 1) (by omega)
      have go := hord (q - 1) (by omega)
      rw [g1, g3] at g
      have hlast : bRank C[q - 1] < bRank x := by
        rw [hrk]; unfold bRank
        have k1 : ¬ n < C[q - 1] 1 := fun h9 => g (.inl h9)
        by_cases k2 : n = C[q - 1] 1
        · have k3 : ¬ (w ≠ 1 ∧ C[q - 1] 0 = 1) := fun h9 => g (.inr ⟨k2, h9.1, h9.2⟩)
          omega
        · omega
      by_cases hjq2 : j = q - 1
      · subst hjq2; exact hlast
      · have hP := r7.2.2.2.1
        rw [List.pairwise_iff_getElem] at hP
        have := hP j (q - 1) hj (by omega) (by omega)
        omega
  refine ⟨?_, rowsR_congr r2 ht s2, corR_congr r3 ht s2 hM2.2 (fun j j1 j2 => hs j (by omega) (by omega) (by omega) (by omega)), ?_, ?_, ?_, ?_⟩
  · obtain ⟨a1, a2, a3, a4, a5, a6, a7⟩ := r1
    refine ⟨?_, ?_, ?_, ?_, ?_, ?_, ?_⟩
    · rw [hv0 4 (by decide) (by decide) (by decide), s3]; exact a1
    · rw [hv0 5 (by decide) (by decide) (by decide), hs 0 (by decide) (by decide) (by decide) (by decide)]; exact a2
    · rw [hv0 6 (by decide) (by decide) (by decide), s1]; exact a3
    · rw [hv7, airs_5]
    · rw [hv0 8 (by decide) (by decide) (by decide), hs 6 (by decide) (by decide) (by decide) (by decide)]; exact a5
    · rw [hv 1 (by decide) (by decide) (by omega) (by omega) (by omega), s2]; exact a6
    · rw [hv10, airs_4]
  · refine heardR_congr r4 (hv 8 (by decide) (by decide) (by omega) (by omega) (by omega)) s2 s3 (fun l m l0 l1 m1 m2 => ?_)
    have h9 := tdiv32 (n := m) (by omega)
    rw [mHeard_tb, mHeard_tb, s2, hli l _ l0 (by omega) (by omega) (by omega)]
  · intro l l0 l1
    rw [s3] at l1
    rw [s2]
    refine slR_congr (r5 l l0 l1) ht (fun j _ => ?_) (Int.le_refl _) (fun k y k0 k1 y0 y1 => hof l k y l0 (by omega) k0 k1 y0 y1)
    have hqv : v' (qOf l) = v (qOf l) := by
      unfold qOf; split
      · exact hv 9 (by omega) (by omega) (by omega) (by omega) (by omega)
      · exact hv _ (by omega) (by omega) (by omega) (by omega) (by omega)
    rw [hqv]
  · intro l l0 l1
    rw [s3] at l1
    exact lis1_congr (r6 l l0 l1) (hv _ (by omega) (by omega) (by omega) (by omega) (by omega)) (hv _ (by omega) (by omega) (by omega) (by omega) (by omega)) (hv _ (by omega) (by omega) (by omega) (by omega) (by omega)) s2 ((hL l l0 l1).2.2) (fun y y0 y1 => hli l y l0 (by omega) y0 y1)
  · obtain ⟨a1, a2, a3, a4, a5⟩ := r7
    have hN30 : (s 4).toNat < 30 := by omega
    refine ⟨fun p hp => ?_, fun p p' hp hp' he => ?_, ?_, hC', fun p hp => ?_⟩
    · unfold shA
      split
      · exact a1 p hp
      · split
        · exact hbN
        · split
          · exact a1 _ (by omega)
          · exact a1 p hp
    · unfold shA at he
      have inj : ∀ x y, x < 30 → y < 30 → b x = b y → x = y := a2
      by_cases c1 : p < q
      · rw [if_pos c1] at he
        by_cases d1 : p' < q
        · rw [if_pos d1] at he; exact inj _ _ hp hp' he
        · rw [if_neg d1] at he
          by_cases d2 : p' = q
          · rw [if_pos d2] at he; have := inj _ _ hp hN30 he; omega
          · rw [if_neg d2] at he
            by_cases d3 : p' ≤ (s 4).toNat
            · rw [if_pos d3] at he; have := inj _ _ hp (by omega) he; omega
            · rw [if_neg d3] at he; have := inj _ _ hp hp' he; omega
      · rw [if_neg c1] at he
        by_cases c2 : p = q
        · rw [if_pos c2] at he
          by_cases d1 : p' < q
          · rw [if_pos d1] at he; have := inj _ _ hN30 hp' he; omega
          · rw [if_neg d1] at he
            by_cases d2 : p' = q
            · omega
            · rw [if_neg d2] at he
              by_cases d3 : p' ≤ (s 4).toNat
              · rw [if_pos d3] at he; have := inj _ _ hN30 (by omega) he; omega
              · rw [if_neg d3] at he; have := inj _ _ hN30 hp' he; omega
        · rw [if_neg c2] at he
          by_cases c3 : p ≤ (s 4).toNat
          · rw [if_pos c3] at he
            by_cases d1 : p' < q
            · rw [if_pos d1] at he; have := inj _ _ (by omega) hp' he; omega
            · rw [if_neg d1] at he
              by_cases d2 : p' = q
              · rw [if_pos d2] at he; have := inj _ _ (by omega) hN30 he; omega
              · rw [if_neg d2] at he
                by_cases d3 : p' ≤ (s 4).toNat
                · rw [if_pos d3] at he; have := inj _ _ (by omega) (by omega) he; omega
                · rw [if_neg d3] at he; have := inj _ _ (by omega) hp' he; omega
          · rw [if_neg c3] at he
            by_cases d1 : p' < q
            · rw [if_pos d1] at he; have := inj _ _ hp hp' he; omega
            · rw [if_neg d1] at he
              by_cases d2 : p' = q
              · rw [if_pos d2] at he; have := inj _ _ hp hN30 he; omega
              · rw [if_neg d2] at he
                by_cases d3 : p' ≤ (s 4).toNat
                · rw [if_pos d3] at he; have := inj _ _ hp (by omega) he; omega
                · rw [if_neg d3] at he; exact inj _ _ hp hp' he
    · rw [airL_airs hA0, hx]
      exact put_perm.trans (a3.append_right _)
    · have hold : ∀ (j : Nat) (hj : j < C.length), sgR v' (mAirs s w n len) (12 + 3 * b j) C[j] := by
        intro j hj
        have hne : b j ≠ b (s 4).toNat := fun h9 => by have := a2 j (s 4).toNat (by omega) hN30 h9; omega
        refine sgR_congr (a5 j hj) ht (hv _ (by omega) (by omega) (by omega) (by omega) (by omega)) (hv _ (by omega) (by omega) (by omega) (by omega) (by omega)) (hv _ (by omega) (by omega) (by omega) (by omega) (by omega)) (by rw [s1]; exact Int.le_refl _) s2 s3
      rw [put_get hq hp]
      unfold shA
      by_cases c1 : p < q
      · rw [if_pos c1, dif_pos c1]; exact hold p (by omega)
      · rw [if_neg c1, dif_neg c1]
        by_cases c2 : p = q
        · rw [if_pos c2, dif_pos c2]
          unfold sgR
          rw [s3, s2, s1, x0, x1, x2, x3, ht 6 (by decide) (by decide)]
          refine ⟨e0, e1, e2, e3, ?_, ?_, fun l l0 l1 => ?_, ⟨hM1, Int.le_refl _⟩, hw, hn, hw0, fun hw1 => ?_⟩
          · rw [e4]
            have key : ∀ (d : Nat) (y acc : Int), 0 ≤ y → y + d ≤ s 3 → minW d y acc (fun l => s 1 + len + mLi s l 0) = minW d y acc (fun l => x (5 + l).toNat) := by
              intro d
              induction d with
              | zero => intro y acc _ _; rfl
              | succ d ih => intro y acc y0 y1; rw [minW, minW, xd y y0 (by omega)]; exact ih _ _ (by omega) (by omega)
            exact key _ _ _ (by decide) (by omega)
          · rw [e5]
            have key : ∀ (d : Nat) (y acc : Int), 0 ≤ y → y + d ≤ s 3 → maxW d y acc (fun l => s 1 + len + mLi s l 0) = maxW d y acc (fun l => x (5 + l).toNat) := by
              intro d
              induction d with
              | zero => intro y acc _ _; rfl
              | succ d ih => intro y acc y0 y1; rw [maxW, maxW, xd y y0 (by omega)]; exact ih _ _ (by omega) (by omega)
            exact key _ _ _ (by decide) (by omega)
          · have hd := (hL l l0 l1).1
            rw [e6 l l0 l1, xd l l0 l1]
            exact ⟨rfl, by omega, by omega⟩
          · have r9 := r5 (-1) (by decide) (by omega)
            have hq9 : qOf (-1) = 9 := by unfold qOf; rw [if_pos rfl]
            rw [hq9] at r9
            exact slR_congr r9 ht (fun j hj => e7 hw1 j hj) (Int.le_refl _) (fun k y k0 k1 y0 y1 => xl hw1 k y k0 k1 y0 y1)
        · rw [if_neg c2, dif_neg c2]
          have hp2 : p < C.length + 1 := by rw [List.length_append, List.length_cons, List.length_take, List.length_drop] at hp; omega
          rw [if_pos (by omega)]; exact hold (p - 1) (by omega)
