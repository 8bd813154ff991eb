/-! ===== the first minute and the clashes ===== -/
theorem fst_char {p : Int → Bool} {r : Int → Int} {z : Int} : ∀ (d : Nat) (x : Int), (∃ m, x ≤ m ∧ m < x + d ∧ p m = true ∧ (∀ i, x ≤ i → i < m → p i = false) ∧ fstW d x p r z = r m) ∨ ((∀ m, x ≤ m → m < x + d → p m = false) ∧ fstW d x p r z = z) := by
  intro d
  induction d with
  | zero => intro x; exact .inr ⟨fun m h1 h2 => by omega, rfl⟩
  | succ d ih =>
    intro x
    rw [fstW]
    cases hp : p x with
    | true => exact .inl ⟨x, Int.le_refl _, by omega, hp, fun i i0 i1 => by omega, if_pos rfl⟩
    | false =>
      rw [if_neg (by decide)]
      rcases ih (x + 1) with ⟨m, h1, h2, h3, h4, h5⟩ | ⟨h1, h2⟩
      · refine .inl ⟨m, by omega, by omega, h3, fun i i0 i1 => ?_, h5⟩
        by_cases hi : i = x
        · rw [hi]; exact hp
        · exact h4 i (by omega) i1
      · refine .inr ⟨fun m m0 m1 => ?_, h2⟩
        by_cases hi : m = x
        · rw [hi]; exact hp
        · exact h1 m (by omega) (by omega)
theorem first_it {f : Int → Int → Int} {day minute : Int} (hm : 0 ≤ minute) : ∀ (d : Nat) (x e : Int), (itA d x e (fFirstK f day minute) = e ∨ ∃ k, x ≤ k ∧ k < x + d ∧ f k 1 = day ∧ minute < f k 3 ∧ itA d x e (fFirstK f day minute) = max (f k 2) minute) ∧ (∀ k, x ≤ k → k < x + d → f k 1 = day → minute < f k 3 → itA d x e (fFirstK f day minute) ≠ -1 ∧ itA d x e (fFirstK f day minute) ≤ max (f k 2) minute) ∧ (e ≠ -1 → itA d x e (fFirstK f day minute) ≠ -1 ∧ itA d x e (fFirstK f day minute) ≤ e) := by
  intro d
  induction d with
  | zero => intro x e; exact ⟨.inl rfl, fun k h1 h2 => by omega, fun h => ⟨h, Int.le_refl _⟩⟩
  | succ d ih =>
    intro x e
    rw [itA]
    obtain ⟨h1, h2, h3⟩ := ih (x + 1) (fFirstK f day minute x e)
    generalize itA d (x + 1) (fFirstK f day minute x e) (fFirstK f day minute) = r at *
    by_cases hc : f x 1 = day ∧ minute < f x 3 ∧ (e = -1 ∨ max (f x 2) minute < e)
    · have hk : fFirstK f day minute x e = max (f x 2) minute := if_pos hc
      rw [hk] at h1 h3
      have h3' := h3 (by omega)
      refine ⟨?_, fun k k0 k1 k2 k3 => ?_, fun he => ?_⟩
      · rcases h1 with h1 | ⟨k, a1, a2, a3, a4, a5⟩
        · exact .inr ⟨x, Int.le_refl _, by omega, hc.1, hc.2.1, h1⟩
        · exact .inr ⟨k, by omega, by omega, a3, a4, a5⟩
      · by_cases hkx : k = x
        · rw [hkx]; exact h3'
        · exact h2 k (by omega) (by omega) k2 k3
      · refine ⟨h3'.1, ?_⟩
        have := hc.2.2
        omega
    · have hk : fFirstK f day minute x e = e := if_neg hc
      rw [hk] at h1 h3
      refine ⟨?_, fun k k0 k1 k2 k3 => ?_, h3⟩
      · rcases h1 with h1 | ⟨k, a1, a2, a3, a4, a5⟩
        · exact .inl h1
        · exact .inr ⟨k, by omega, by omega, a3, a4, a5⟩
      · by_cases hkx : k = x
        · subst hkx
          have he : ¬ (e = -1 ∨ max (f k 2) minute < e) := fun q => hc ⟨k2, k3, q⟩
          have := h3 (by omega)
          omega
        · exact h2 k (by omega) (by omega) k2 k3
theorem stands_iff {s : Nat → Int} {l day m : Int} : mStands s l day m ≠ -1 ↔ ∃ k, 0 ≤ k ∧ k < 12 ∧ mCovers s l k day m = true := by
  unfold mStands
  rcases fst_char (p := fun k => mCovers s l k day m) (r := fun k => mOf s l k 0) (z := -1) 12 0 with ⟨k, h1, h2, h3, h4, h5⟩ | ⟨h1, h2⟩
  · refine ⟨fun _ => ⟨k, h1, by omega, h3⟩, fun _ => ?_⟩
    rw [h5]
    have h3' : mCovers s l k day m = true := h3
    unfold mCovers at h3'
    simp only [Bool.and_eq_true, Bool.not_eq_true', decide_eq_false_iff_not] at h3'
    exact h3'.1
  · refine ⟨fun h => absurd h2 h, fun ⟨k, k0, k1, k2⟩ => ?_⟩
    have := h1 k k0 (by omega)
    rw [show mCovers s l k day m = false from this] at k2
    cases k2
theorem first_eq {f : Int → Int → Int} {s : Nat → Int} {l day minute : Int} (he : eqL f (mOf s l)) (hw : wfL (mOf s l)) (hd : 0 ≤ day) (hm : 0 ≤ minute ∧ minute ≤ 1440) : fFirst f day minute = mNext s l day minute := by
  have hf := wfL_eq hw he
  have hcov : ∀ k m, 0 ≤ k → k < 12 → (mCovers s l k day m = true ↔ f k 1 = day ∧ f k 2 ≤ m ∧ m < f k 3) := by
    intro k m k0 k1
    have e : ∀ w, 0 ≤ w → w < 4 → f k w = mOf s l k w := fun w w0 w1 => he k w k0 k1 w0 w1
    have hw' := hf k k0 k1
    unfold mCovers inB
    rw [← e 0 (by decide) (by decide), ← e 1 (by decide) (by decide), ← e 2 (by decide) (by decide), ← e 3 (by decide) (by decide)]
    simp only [Bool.and_eq_true, Bool.not_eq_true', decide_eq_false_iff_not, decide_eq_true_eq]
    unfold wfS at hw'
    omega
  obtain ⟨h1, h2, _⟩ := first_it (f := f) (day := day) hm.1 12 0 (-1)
  have hr : itA 12 0 (-1) (fFirstK f day minute) = fFirst f day minute := rfl
  rw [hr] at h1 h2
  generalize fFirst f day minute = r at *
  have hstand : ∀ k, 0 ≤ k → k < 12 → f k 1 = day → minute < f k 3 → r = max (f k 2) minute → minute ≤ r ∧ r < 1440 ∧ mStands s l day r ≠ -1 := by
    intro k k0 k1 k2 k3 k4
    have hw' := hf k k0 k1
    unfold wfS at hw'
    refine ⟨by omega, by omega, stands_iff.mpr ⟨k, k0, k1, (hcov k r k0 k1).mpr ⟨k2, by omega, by omega⟩⟩⟩
  unfold mNext
  rcases fst_char (p := fun m => !decide (mStands s l day m = -1)) (r := fun m => m) (z := -1) (1440 - minute).toNat minute with ⟨m, m1, m2, m3, m4, m5⟩ | ⟨m1, m2⟩
  · rw [m5]
    have m3' : mStands s l day m ≠ -1 := by simpa using m3
    obtain ⟨k, k0, k1, k2⟩ := stands_iff.mp m3'
    obtain ⟨c1, c2, c3⟩ := (hcov k m k0 k1).mp k2
    obtain ⟨r1, r2⟩ := h2 k k0 (by omega) c1 (by omega)
    rcases h1 with h1 | ⟨k', a1, a2, a3, a4, a5⟩
    · exact absurd h1 r1
    · obtain ⟨b1, b2, b3⟩ := hstand k' a1 (by omega) a3 a4 a5
      refine Classical.byContradiction fun hne => ?_
      have := m4 r b1 (by omega)
      simp at this
      exact b3 this
  · rw [m2]
    rcases h1 with h1 | ⟨k', a1, a2, a3, a4, a5⟩
    · exact h1
    · obtain ⟨b1, b2, b3⟩ := hstand k' a1 (by omega) a3 a4 a5
      have := m1 r b1 (by omega)
      simp at this
      exact absurd this b3
/-! ### sums without wrapping -/
def ps : Nat → Int → (Int → Int) → Int
  | 0, _, _ => 0
  | d + 1, x, f => f x + ps d (x + 1) f
theorem ps_snoc {f : Int → Int} : ∀ (d : Nat) (x : Int), ps (d + 1) x f = ps d x f + f (x + d) := by
  intro d
  induction d with
  | zero => intro x; simp [ps]
  | succ d ih =>
    intro x
    rw [ps, ih (x + 1), ps, show x + 1 + (d : Int) = x + ((d + 1 : Nat) : Int) from by omega]; omega
theorem ps_congr {f g : Int → Int} : ∀ (d : Nat) (x : Int), (∀ i, x ≤ i → i < x + d → f i = g i) → ps d x f = ps d x g := by
  intro d
  induction d with
  | zero => intro x h; rfl
  | succ d ih =>
    intro x h
    rw [ps, ps, h x (by omega) (by omega), ih (x + 1) (fun i i0 i1 => h i (by omega) (by omega))]
theorem ps_add {f g : Int → Int} : ∀ (d : Nat) (x : Int), ps d x (fun i => f i + g i) = ps d x f + ps d x g := by
  intro d
  induction d with
  | zero => intro x; rfl
  | succ d ih => intro x; rw [ps, ps, ps, ih (x + 1)]; omega
theorem ps_rng {f : Int → Int} {c : Nat} : ∀ (d : Nat) (x : Int), (∀ i, x ≤ i → i < x + d → 0 ≤ f i ∧ f i ≤ c) → 0 ≤ ps d x f ∧ ps d x f ≤ d * c := by
  intro d
  induction d with
  | zero => intro x h; simp [ps]
  | succ d ih =>
    intro x h
    have h1 := h x (by omega) (by omega)
    have h2 := ih (x + 1) (fun i i0 i1 => h i (by omega) (by omega))
    rw [ps]
    have : ((d + 1 : Nat) : Int) * (c : Int) = d * c + c := by
      rw [show ((d + 1 : Nat) : Int) = (d : Int) + 1 from by omega, Int.add_mul, Int.one_mul]
    omega
theorem sumW_ps {f : Int → Int} : ∀ (d : Nat) (x acc : Int), 0 ≤ acc → acc + d ≤ 2000000000 → (∀ i, x ≤ i → i < x + d → 0 ≤ f i ∧ f i ≤ 1) → sumW d x acc f = acc + ps d x f := by
  intro d
  induction d with
  | zero => intro x acc _ _ _; simp [sumW, ps]
  | succ d ih =>
    intro x acc a0 a1 h
    have h1 := h x (by omega) (by omega)
    rw [sumW, wr_id (by omega) (by omega), ih (x + 1) _ (by omega) (by omega) (fun i i0 i1 => h i (by omega) (by omega)), ps]; omega
/-- all pairs, each once, from below or from above -/
theorem ps_pairs {c : Int → Int → Int} (hs : ∀ i j, c i j = c j i) : ∀ n : Nat, ps n 0 (fun k => ps (n - 1 - k).toNat (k + 1) (c k)) = ps n 0 (fun k => ps k.toNat 0 (c k)) := by
  intro n
  induction n with
  | zero => rfl
  | succ n ih =>
    rw [ps_snoc, ps_snoc]
    have e1 : ps n 0 (fun k => ps (((n + 1 : Nat) : Int) - 1 - k).toNat (k + 1) (c k)) = ps n 0 (fun k => ps (n - 1 - k).toNat (k + 1) (c k) + c k n) := by
      refine ps_congr n 0 (fun k k0 k1 => ?_)
      show ps _ _ _ = _
      rw [show (((n + 1 : Nat) : Int) - 1 - k).toNat = ((n : Int) - 1 - k).toNat + 1 from by omega, ps_snoc]
      congr 2; omega
    have e2 : (((n + 1 : Nat) : Int) - 1 - (0 + (n : Int))).toNat = 0 := by omega
    have e3 : (0 + (n : Int)).toNat = n := by omega
    rw [e1, ps_add, ih, e2, e3, ps]
    have : ps n 0 (fun k => c k n) = ps n 0 (c (0 + n)) := ps_congr n 0 (fun k _ _ => by rw [Int.zero_add]; exact hs k n)
    rw [this]; omega
theorem itA_ps {h : Int → Nat} {x0 : Int → Int} {g : Int → Int → Int} (hh : ∀ k, h k ≤ 12) (hg : ∀ k o, 0 ≤ g k o ∧ g k o ≤ 1) : ∀ (d : Nat) (x acc : Int), 0 ≤ acc → acc + 12 * d ≤ 1000000 → itA d x acc (fun k acc => sumW (h k) (x0 k) acc (g k)) = acc + ps d x (fun k => ps (h k) (x0 k) (g k)) := by
  intro d
  induction d with
  | zero => intro x acc _ _; simp [itA, ps]
  | succ d ih =>
    intro x acc a0 a1
    have hx := hh x
    have hr := ps_rng (f := g x) (c := 1) (h x) (x0 x) (fun i _ _ => hg x i)
    rw [itA, sumW_ps _ _ _ a0 (by omega) (fun i _ _ => hg x i), ih (x + 1) _ (by omega) (by omega), ps]; omega
theorem clash_sym {f : Int → Int → Int} {i j : Int} : fClash f i j = fClash f j i := by
  rw [Bool.eq_iff_iff]
  unfold fClash
  simp only [Bool.and_eq_true, Bool.not_eq_true', decide_eq_false_iff_not, decide_eq_true_eq]
  omega
theorem clash_eq {f : Int → Int → Int} {s : Nat → Int} {l k o : Int} (he : eqL f (mOf s l)) (hw : wfL (mOf s l)) (hk : 0 ≤ k ∧ k < 12) (ho : 0 ≤ o ∧ o < 12) : mClash s l k o = fClash f k o := by
  have hf := wfL_eq hw he
  have e : ∀ w, 0 ≤ w → w < 4 → f k w = mOf s l k w := fun w w0 w1 => he k w hk.1 hk.2 w0 w1
  have e' : ∀ w, 0 ≤ w → w < 4 → f o w = mOf s l o w := fun w w0 w1 => he o w ho.1 ho.2 w0 w1
  have h1 := hf k hk.1 hk.2
  have h2 := hf o ho.1 ho.2
  unfold wfS at h1 h2
  rw [Bool.eq_iff_iff]
  unfold mClash fClash
  rw [← e 0 (by decide) (by decide), ← e 1 (by decide) (by decide), ← e 2 (by decide) (by decide), ← e 3 (by decide) (by decide), ← e' 0 (by decide) (by decide), ← e' 1 (by decide) (by decide), ← e' 2 (by decide) (by decide), ← e' 3 (by decide) (by decide)]
  simp only [Bool.and_eq_true, Bool.not_eq_true', decide_eq_false_iff_not, decide_eq_true_eq]
  omega
theorem clashes_eq {f : Int → Int → Int} {s : Nat → Int} {l : Int} (he : eqL f (mOf s l)) (hw : wfL (mOf s l)) : fClashes f = mClashes s l := by
  have hg : ∀ k o, 0 ≤ bi (fClash f k o) ∧ bi (fClash f k o) ≤ 1 := fun k o => ⟨bi_lo, bi_hi⟩
  have h1 : mClashes s l = itA 12 0 0 fun k acc => sumW (min (11 - k).toNat 12) (k + 1) acc fun o => bi (fClash f k o) := by
    unfold mClashes
    refine itA_congr 12 0 0 (fun k k0 k1 acc => ?_)
    rw [show min (11 - k).toNat 12 = (11 - k).toNat from by omega]
    exact sumW_congr _ _ _ (fun o o0 o1 => by rw [clash_eq he hw ⟨k0, by omega⟩ ⟨by omega, by omega⟩])
  have h2 : fClashes f = itA 12 0 0 fun k acc => sumW (min k.toNat 12) 0 acc fun o => bi (fClash f k o) := by
    unfold fClashes
    refine itA_congr 12 0 0 (fun k k0 k1 acc => ?_)
    rw [show min k.toNat 12 = k.toNat from by omega]
  rw [h1, h2, itA_ps (h := fun k => min k.toNat 12) (x0 := fun _ => 0) (g := fun k o => bi (fClash f k o)) (fun k => by omega) hg 12 0 0 (by decide) (by decide), itA_ps (h := fun k => min (11 - k).toNat 12) (x0 := fun k => k + 1) (g := fun k o => bi (fClash f k o)) (fun k => by omega) hg 12 0 0 (by decide) (by decide)]
  have hp := ps_pairs (c := fun k o => bi (fClash f k o)) (fun i j => by rw [clash_sym]) 12
  rw [Int.zero_add, Int.zero_add]
  refine Eq.trans (ps_congr 12 0 fun k k0 k1 => ?_) (hp.symm.trans (ps_congr 12 0 fun k k0 k1 => ?_))
  · show ps _ _ _ = ps _ _ _
    rw [show min k.toNat 12 = k.toNat from by omega]
  · show ps _ _ _ = ps _ _ _
    rw [show (((12 : Nat) : Int) - 1 - k).toNat = min (11 - k).toNat 12 from by omega]
