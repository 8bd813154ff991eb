/-! ===== lists: by edges and by minutes ===== -/
theorem fstW_congr {p p' : Int → Bool} {r r' : Int → Int} {z : Int} : ∀ (d : Nat) (x : Int), (∀ i, x ≤ i → i < x + d → p i = p' i ∧ r i = r' i) → fstW d x p r z = fstW d x p' r' z := by
  intro d
  induction d with
  | zero => intro x _; rfl
  | succ d ih =>
    intro x h
    have h1 := h x (Int.le_refl _) (by omega)
    rw [fstW, fstW, h1.1, h1.2, ih _ fun i h2 h3 => h i (by omega) (by omega)]
theorem itA_congr {α : Type} {f g : Int → α → α} : ∀ (d : Nat) (x : Int) (acc : α), (∀ i, x ≤ i → i < x + d → ∀ y, f i y = g i y) → itA d x acc f = itA d x acc g := by
  intro d
  induction d with
  | zero => intro x acc _; rfl
  | succ d ih =>
    intro x acc h
    rw [itA, itA, h x (Int.le_refl _) (by omega)]
    exact ih _ _ fun i h2 h3 => h i (by omega) (by omega)
/-- a list whose slots are free or hold a stop -/
def wfL (g : Int → Int → Int) : Prop := ∀ k, 0 ≤ k → k < 12 → wfS (g k)
def eqL (f g : Int → Int → Int) : Prop := ∀ k w, 0 ≤ k → k < 12 → 0 ≤ w → w < 4 → f k w = g k w
theorem wfL_eq {f g : Int → Int → Int} (h : wfL g) (he : eqL f g) : wfL f := by
  intro k k0 k1
  have := h k k0 k1
  unfold wfS at *
  rw [he k 0 k0 k1 (by decide) (by decide), he k 1 k0 k1 (by decide) (by decide), he k 2 k0 k1 (by decide) (by decide), he k 3 k0 k1 (by decide) (by decide)]
  exact this
theorem place_eq {f : Int → Int → Int} {s : Nat → Int} {l day minute : Int} (he : eqL f (mOf s l)) (hw : wfL (mOf s l)) (hd : 0 ≤ day) : fPlace f day minute = mStands s l day minute := by
  unfold fPlace mStands
  refine fstW_congr _ _ fun k k0 k1 => ⟨?_, he k 0 k0 (by omega) (by decide) (by decide)⟩
  unfold fCov mCovers
  rw [he k 1 k0 (by omega) (by decide) (by decide), he k 2 k0 (by omega) (by decide) (by decide), he k 3 k0 (by omega) (by decide) (by decide)]
  rcases hw k k0 (by omega) with ⟨w0, w1, w2, w3⟩ | ⟨w0, w1, w2, w3, w4⟩
  · rw [decide_eq_false (by omega), w0]; simp
  · rw [decide_eq_false (p := mOf s l k 0 = -1) (by omega)]
    simp only [Bool.not_false, Bool.true_and]
    congr 1
    unfold inB
    congr 1
    rw [decide_eq_decide]; omega
theorem to_of {s : Nat → Int} {l : Int} (hw : wfL (mOf s l)) : mTo s l := by
  intro k k0 k1
  rcases hw k k0 k1 with ⟨w0, w1, w2, w3⟩ | ⟨w0, w1, w2, w3, w4⟩ <;> omega
/-! edges -/
theorem edge_it {f : Int → Int → Int} {day m : Int} : ∀ (d : Nat) (x e : Int), itA d x e (fEdgeK f day m) ≤ e ∧ (m < e → m < itA d x e (fEdgeK f day m)) ∧ ∀ k, x ≤ k → k < x + d → f k 1 = day → (m < f k 2 → itA d x e (fEdgeK f day m) ≤ f k 2) ∧ (m < f k 3 → itA d x e (fEdgeK f day m) ≤ f k 3) := by
  intro d
  induction d with
  | zero => intro x e; exact ⟨Int.le_refl _, id, fun k h1 h2 => by omega⟩
  | succ d ih =>
    intro x e
    rw [itA]
    obtain ⟨g1, g2, g3⟩ := ih (x + 1) (fEdgeK f day m x e)
    have q1 : fEdgeK f day m x e ≤ e := by unfold fEdgeK; split <;> (try split) <;> (try split) <;> omega
    have q2 : m < e → m < fEdgeK f day m x e := by intro h; unfold fEdgeK; split <;> (try split) <;> (try split) <;> omega
    have q3 : f x 1 = day → (m < f x 2 → fEdgeK f day m x e ≤ f x 2) ∧ (m < f x 3 → fEdgeK f day m x e ≤ f x 3) := by
      intro h; unfold fEdgeK; rw [if_pos h]
      constructor
      · intro h2; split <;> (try split) <;> (try split) <;> omega
      · intro h2; rw [if_pos h2]; omega
    refine ⟨by omega, fun h => g2 (q2 h), fun k h1 h2 h3 => ?_⟩
    by_cases hk : k = x
    · subst hk
      have := q3 h3
      exact ⟨fun h => by have := this.1 h; omega, fun h => by have := this.2 h; omega⟩
    · exact g3 k (by omega) (by omega) h3
theorem edge_rng {f : Int → Int → Int} {day m : Int} (hm : m < 1440) : m < fEdge f day m ∧ fEdge f day m ≤ 1440 := by
  have := edge_it (f := f) (day := day) (m := m) 12 0 1440
  exact ⟨this.2.1 hm, this.1⟩
theorem place_edge {f : Int → Int → Int} {day m x : Int} (h1 : m ≤ x) (h2 : x < fEdge f day m) : fPlace f day x = fPlace f day m := by
  have he := (edge_it (f := f) (day := day) (m := m) 12 0 1440).2.2
  unfold fPlace
  refine fstW_congr _ _ fun k k0 k1 => ⟨?_, rfl⟩
  unfold fCov
  by_cases hd : f k 1 = day
  · have := he k k0 k1 hd
    rw [decide_eq_true hd, Bool.true_and, Bool.true_and]
    have hE : x < itA 12 0 1440 (fEdgeK f day m) := h2
    by_cases c2 : m < f k 2
    · have := this.1 c2
      rw [decide_eq_false (p := f k 2 ≤ x) (by omega), decide_eq_false (p := f k 2 ≤ m) (by omega)]
      simp
    · rw [decide_eq_true (p := f k 2 ≤ x) (by omega), decide_eq_true (p := f k 2 ≤ m) (by omega)]
      simp only [Bool.true_and]
      rw [decide_eq_decide]
      constructor
      · intro h; omega
      · intro h; have := this.2 h; omega
  · rw [decide_eq_false hd]; simp
/-! a run of minutes at once -/
theorem sumW_add {f : Int → Int} : ∀ (a b : Nat) (x acc : Int), sumW (a + b) x acc f = sumW b (x + a) (sumW a x acc f) f := by
  intro a
  induction a with
  | zero => intro b x acc; simp [sumW]
  | succ a ih =>
    intro b x acc
    rw [show a + 1 + b = (a + b) + 1 from by omega, sumW, sumW, ih]
    congr 1; omega
theorem wr_wr {x y : Int} : wr (wr x + y) = wr (x + y) := by unfold wr; omega
theorem sumW_const {p : Int → Bool} {v : Bool} : ∀ (d : Nat) (x acc : Int), i32 acc → (∀ i, x ≤ i → i < x + d → p i = v) → sumW d x acc (fun i => bi (p i)) = if v = true then wr (acc + d) else acc := by
  intro d
  induction d with
  | zero =>
    intro x acc h _
    simp only [sumW]
    split
    · exact (wr_0 h).symm
    · rfl
  | succ d ih =>
    intro x acc h hp
    rw [sumW, hp x (Int.le_refl _) (by omega), ih _ _ i32_wr fun i h1 h2 => hp i (by omega) (by omega)]
    cases v with
    | true => rw [if_pos rfl, if_pos rfl, bi_t, wr_wr]; congr 1; omega
    | false => rw [if_neg (by decide), if_neg (by decide), bi_f, wr_0 h]
theorem minK_sum {P : Int → Bool} {E : Int → Int} (hE : ∀ m, 0 ≤ m → m < 1440 → (m < E m ∧ E m ≤ 1440) ∧ ∀ x, m ≤ x → x < E m → P x = P m) : ∀ (d : Nat) (m acc : Int), 0 ≤ m → m ≤ 1440 → 1440 - m ≤ d → i32 acc → fMinK P E d m acc = sumW (1440 - m).toNat m acc (fun i => bi (P i)) := by
  intro d
  induction d with
  | zero =>
    intro m acc m0 m1 hd h
    rw [show (1440 - m).toNat = 0 from by omega]; rfl
  | succ d ih =>
    intro m acc m0 m1 hd h
    rw [fMinK]
    by_cases h1 : 1440 ≤ m
    · rw [if_pos h1, show (1440 - m).toNat = 0 from by omega]; rfl
    · rw [if_neg h1]
      obtain ⟨⟨e1, e2⟩, e3⟩ := hE m m0 (by omega)
      rw [show (1440 - m).toNat = (E m - m).toNat + (1440 - E m).toNat from by omega, sumW_add, show m + ((E m - m).toNat : Int) = E m from by omega,
        sumW_const (v := P m) _ _ _ h fun i h2 h3 => e3 i h2 (by omega)]
      have hr : i32 (if P m = true then wr (acc + wr (E m - m)) else acc) := by
        by_cases hp : P m = true
        · rw [if_pos hp]; exact i32_wr
        · rw [if_neg hp]; exact h
      rw [ih (E m) _ (by omega) e2 (by omega) hr]
      congr 1
      by_cases hp : P m = true
      · rw [if_pos hp, if_pos hp, wr_id (z := E m - m) (by omega) (by omega)]; congr 1; omega
      · rw [if_neg hp, if_neg hp]
theorem minDay_eq {f : Int → Int → Int} {s : Nat → Int} {l place day acc : Int} {N : Nat} (hN : (N : Int) = 1440) (he : eqL f (mOf s l)) (hw : wfL (mOf s l)) (hd : 0 ≤ day) (ha : i32 acc) : fMinDay f place N day acc = mMinDay s l place N day acc ∧ i32 (mMinDay s l place N day acc) := by
  unfold fMinDay mMinDay
  refine ⟨?_, i32_sumW _ _ _ ha⟩
  rw [minK_sum (fun m m0 m1 => ⟨edge_rng m1, fun x h1 h2 => by rw [place_edge h1 h2]⟩) N 0 acc (by decide) (by decide) (by omega) ha]
  rw [show ((1440 : Int) - 0).toNat = N from by omega]
  exact sumW_congr _ _ _ fun i _ _ => by rw [place_eq he hw hd]
theorem minutes_eq {f : Int → Int → Int} {s : Nat → Int} {l place : Int} (he : eqL f (mOf s l)) (hw : wfL (mOf s l)) : itA 7 0 0 (fMinDay f place 1440) = mMinutes s l place := by
  unfold mMinutes
  have key : ∀ (N : Nat), (N : Int) = 1440 → ∀ (d : Nat) (x acc : Int), 0 ≤ x → i32 acc → itA d x acc (fMinDay f place N) = itA d x acc (mMinDay s l place N) := by
    intro N hN d
    induction d with
    | zero => intro x acc _ _; rfl
    | succ d ih =>
      intro x acc hx ha
      obtain ⟨g1, g2⟩ := minDay_eq (place := place) hN he hw hx ha
      rw [itA, itA, g1]
      exact ih _ _ (by omega) g2
  exact key 1440 rfl 7 0 0 (by decide) ⟨by decide, by decide⟩
theorem apartDay_eq {f g : Int → Int → Int} {s : Nat → Int} {l day acc : Int} {N : Nat} (hN : (N : Int) = 1440) (he : eqL f (mOf s (-1))) (hw : wfL (mOf s (-1))) (he2 : eqL g (mOf s l)) (hw2 : wfL (mOf s l)) (hd : 0 ≤ day) (ha : i32 acc) : fApartDay f g N day acc = mWrongDay s l N day acc ∧ i32 (mWrongDay s l N day acc) := by
  unfold fApartDay mWrongDay
  refine ⟨?_, i32_sumW _ _ _ ha⟩
  rw [minK_sum (fun m m0 m1 => by
    have a1 := edge_rng (f := f) (day := day) m1
    have a2 := edge_rng (f := g) (day := day) m1
    exact ⟨by omega, fun x h1 h2 => by rw [place_edge (f := f) h1 (by omega), place_edge (f := g) h1 (by omega)]⟩) N 0 acc (by decide) (by decide) (by omega) ha]
  rw [show ((1440 : Int) - 0).toNat = N from by omega]
  refine sumW_congr _ _ _ fun i _ _ => ?_
  rw [place_eq he hw hd, place_eq he2 hw2 hd]
  congr 2
  rw [decide_eq_decide]
  exact ⟨Eq.symm, Eq.symm⟩
theorem alike_eq {f g : Int → Int → Int} {s : Nat → Int} {l o k : Int} (he : eqL f (mOf s l)) (he2 : eqL g (mOf s o)) (hk : 0 ≤ k ∧ k < 12) : fAlike f g k = mAlike s l o k := by
  unfold fAlike mAlike
  simp only [allW, Bool.and_true]
  rw [he k 0 hk.1 hk.2 (by decide) (by decide), he k 1 hk.1 hk.2 (by decide) (by decide), he k 2 hk.1 hk.2 (by decide) (by decide), he k 3 hk.1 hk.2 (by decide) (by decide), he2 k 0 hk.1 hk.2 (by decide) (by decide), he2 k 1 hk.1 hk.2 (by decide) (by decide), he2 k 2 hk.1 hk.2 (by decide) (by decide), he2 k 3 hk.1 hk.2 (by decide) (by decide)]
  rfl
theorem diff_eq {f g : Int → Int → Int} {s : Nat → Int} {l o : Int} (he : eqL f (mOf s l)) (he2 : eqL g (mOf s o)) : bitW 12 0 0 (fun k => !fAlike f g k) = mDiff s l o := by
  unfold mDiff
  exact bitW_congr _ _ _ fun k k0 k1 => by rw [alike_eq he he2 ⟨k0, by omega⟩]
theorem alike_comm {s : Nat → Int} {l o k : Int} : mAlike s l o k = mAlike s o l k := by
  unfold mAlike
  have key : ∀ (d : Nat) (x : Int), allW d x (fun w => decide (mOf s l k w = mOf s o k w)) = allW d x (fun w => decide (mOf s o k w = mOf s l k w)) := by
    intro d
    induction d with
    | zero => intro x; rfl
    | succ d ih =>
      intro x
      rw [allW, allW, ih]
      congr 1
      rw [decide_eq_decide]
      exact ⟨Eq.symm, Eq.symm⟩
  exact key _ _
theorem diff_comm {s : Nat → Int} {l o : Int} : mDiff s l o = mDiff s o l := by
  unfold mDiff
  exact bitW_congr _ _ _ fun k _ _ => by rw [alike_comm]
/-- two lists that do not differ have the bookmobile at the same places -/
theorem diff0_alike {s : Nat → Int} {l o : Int} (h : mDiff s l o = 0) (k : Int) (hk : 0 ≤ k ∧ k < 12) : mAlike s l o k = true := by
  cases hc : mAlike s l o k with
  | true => rfl
  | false =>
    exfalso
    refine (bitW_ne (p := fun k => !mAlike s l o k) (d := 12) (by decide)).mpr ⟨k, hk.1, by omega, by simp [hc]⟩ ?_
    exact h
theorem alike_words {s : Nat → Int} {l o k w : Int} (h : mAlike s l o k = true) (hw : 0 ≤ w ∧ w < 4) : mOf s l k w = mOf s o k w := by
  unfold mAlike at h
  simp only [allW, Bool.and_true, Bool.and_eq_true, decide_eq_true_eq] at h
  have : w = 0 ∨ w = 1 ∨ w = 2 ∨ w = 3 := by omega
  rcases this with rfl | rfl | rfl | rfl
  · exact h.1
  · exact h.2.1
  · exact h.2.2.1
  · exact h.2.2.2
theorem apart_eq {f g : Int → Int → Int} {s : Nat → Int} {l : Int} (he : eqL f (mOf s (-1))) (hw : wfL (mOf s (-1))) (he2 : eqL g (mOf s l)) (hw2 : wfL (mOf s l)) : itA 7 0 0 (fApartDay f g 1440) = mWrong s l := by
  have key : ∀ (N : Nat), (N : Int) = 1440 → ∀ (d : Nat) (x acc : Int), 0 ≤ x → i32 acc → itA d x acc (fApartDay f g N) = itA d x acc (mWrongDay s l N) := by
    intro N hN d
    induction d with
    | zero => intro x acc _ _; rfl
    | succ d ih =>
      intro x acc hx ha
      obtain ⟨g1, g2⟩ := apartDay_eq hN he hw he2 hw2 hx ha
      rw [itA, itA, g1]
      exact ih _ _ (by omega) g2
  have hk := key 1440 rfl 7 0 0 (by decide) ⟨by decide, by decide⟩
  unfold mWrong
  by_cases h : mDiff s l (-1) = 0
  · rw [if_pos h, hk]
    have z : ∀ (N : Nat), ∀ (d : Nat) (x : Int), itA d x 0 (mWrongDay s l N) = 0 := by
      intro N d
      induction d with
      | zero => intro x; rfl
      | succ d ih =>
        intro x
        have : mWrongDay s l N x 0 = 0 := by
          unfold mWrongDay
          rw [sumW_const (v := false) _ _ _ ⟨by decide, by decide⟩ fun i _ _ => ?_]
          · rfl
          · have : mStands s l x i = mStands s (-1) x i := by
              unfold mStands
              refine fstW_congr _ _ fun k k0 k1 => ?_
              have ha := diff0_alike h k ⟨k0, by omega⟩
              refine ⟨?_, alike_words ha (by decide)⟩
              unfold mCovers
              rw [alike_words ha (w := 0) (by decide), alike_words ha (w := 1) (by decide), alike_words ha (w := 2) (by decide), alike_words ha (w := 3) (by decide)]
            simp [this]
        rw [itA, this]
        exact ih _
    exact z 1440 7 0
  · rw [if_neg h]; exact hk
