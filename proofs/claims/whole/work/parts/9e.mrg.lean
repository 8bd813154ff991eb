/-! ===== merged stops: the one list that is sorted, apart, covering and counted ===== -/
def wI (p b e : Int) (m : Int × Int × Int) : Bool := decide (m.1 = p ∧ b ≤ m.2.1 ∧ m.2.2 ≤ e)
theorem wI_t {p b e : Int} {m : Int × Int × Int} : wI p b e m = true ↔ m.1 = p ∧ b ≤ m.2.1 ∧ m.2.2 ≤ e := by unfold wI; rw [decide_eq_true_eq]
def cnn (M : List (Int × Int × Int)) (n : Nat) (P B E N : Nat → Int) : Prop :=
  (∀ i j, i < j → j < n → (B i < B j ∨ (B i = B j ∧ P i < P j)) ∧ (P i = P j → E i < B j)) ∧
  (∀ i, i < n → B i < E i) ∧
  (∀ m ∈ M, ∃ i, i < n ∧ m.1 = P i ∧ B i ≤ m.2.1 ∧ m.2.2 ≤ E i) ∧
  (∀ i, i < n → ∀ y, 2 * B i ≤ y → y ≤ 2 * E i → ∃ m ∈ M, m.1 = P i ∧ 2 * m.2.1 ≤ y ∧ y ≤ 2 * m.2.2) ∧
  (∀ i, i < n → N i = (M.countP (wI (P i) (B i) (E i)) : Nat)) ∧
  (∀ m ∈ M, m.2.1 < m.2.2)
/-- the stop that is being put: what it already stands for -/
def lse (M : List (Int × Int × Int)) (p b e c : Int) : Prop :=
  b < e ∧ (∀ m ∈ M, m.1 = p ∧ b ≤ m.2.1 ∧ m.2.2 ≤ e ∧ m.2.1 < m.2.2) ∧ (∀ y, 2 * b ≤ y → y ≤ 2 * e → ∃ m ∈ M, 2 * m.2.1 ≤ y ∧ y ≤ 2 * m.2.2) ∧ c = (M.length : Nat)
def insF (f : Nat → Int) (i : Nat) (x : Int) : Nat → Int := fun j => if j < i then f j else if j = i then x else f (j - 1)
def drpF (f : Nat → Int) (i : Nat) : Nat → Int := fun j => if j < i then f j else f (j + 1)
theorem insF_lt {f : Nat → Int} {i j : Nat} {x : Int} (h : j < i) : insF f i x j = f j := by unfold insF; rw [if_pos h]
theorem insF_eq {f : Nat → Int} {i : Nat} {x : Int} : insF f i x i = x := by unfold insF; rw [if_neg (Nat.lt_irrefl _), if_pos rfl]
theorem insF_gt {f : Nat → Int} {i j : Nat} {x : Int} (h : i < j) : insF f i x j = f (j - 1) := by unfold insF; rw [if_neg (by omega), if_neg (by omega)]
theorem drpF_lt {f : Nat → Int} {i j : Nat} (h : j < i) : drpF f i j = f j := by unfold drpF; rw [if_pos h]
theorem drpF_ge {f : Nat → Int} {i j : Nat} (h : ¬ j < i) : drpF f i j = f (j + 1) := by unfold drpF; rw [if_neg h]
theorem cnn_nil {P B E N : Nat → Int} : cnn [] 0 P B E N :=
  ⟨fun i j _ h => absurd h (Nat.not_lt_zero _), fun i h => absurd h (Nat.not_lt_zero _), fun m h => absurd h (by simp), fun i h => absurd h (Nat.not_lt_zero _), fun i h => absurd h (Nat.not_lt_zero _), fun m h => absurd h (by simp)⟩
theorem cnn_congr {M : List (Int × Int × Int)} {n : Nat} {P B E N P' B' E' N' : Nat → Int} (h : cnn M n P B E N) (hP : ∀ i, i < n → P' i = P i) (hB : ∀ i, i < n → B' i = B i) (hE : ∀ i, i < n → E' i = E i) (hN : ∀ i, i < n → N' i = N i) : cnn M n P' B' E' N' := by
  obtain ⟨h1, h2, h3, h4, h5, h6⟩ := h
  refine ⟨fun i j hij hj => ?_, fun i hi => ?_, fun m hm => ?_, fun i hi => ?_, fun i hi => ?_, h6⟩
  · rw [hP i (by omega), hP j hj, hB i (by omega), hB j hj, hE i (by omega)]; exact h1 i j hij hj
  · rw [hB i hi, hE i hi]; exact h2 i hi
  · obtain ⟨i, hi, r⟩ := h3 m hm
    exact ⟨i, hi, by rw [hP i hi, hB i hi, hE i hi]; exact r⟩
  · rw [hP i hi, hB i hi, hE i hi]; exact h4 i hi
  · rw [hP i hi, hB i hi, hE i hi, hN i hi]; exact h5 i hi
theorem cnn_perm {M M' : List (Int × Int × Int)} {n : Nat} {P B E N : Nat → Int} (h : cnn M n P B E N) (hp : M'.Perm M) : cnn M' n P B E N := by
  obtain ⟨h1, h2, h3, h4, h5, h6⟩ := h
  refine ⟨h1, h2, fun m hm => h3 m (hp.mem_iff.mp hm), fun i hi y y0 y1 => ?_, fun i hi => by rw [hp.countP_eq]; exact h5 i hi, fun m hm => h6 m (hp.mem_iff.mp hm)⟩
  obtain ⟨m, hm, r⟩ := h4 i hi y y0 y1
  exact ⟨m, hp.mem_iff.mpr hm, r⟩
/-- two stops at one place are apart -/
theorem cnn_apart {M : List (Int × Int × Int)} {n : Nat} {P B E N : Nat → Int} (h : cnn M n P B E N) {i j : Nat} (hi : i < n) (hj : j < n) (hp : P i = P j) (h1 : B i ≤ E j) (h2 : B j ≤ E i) : i = j := by
  rcases Nat.lt_trichotomy i j with hh | hh | hh
  · have := (h.1 i j hh hj).2 hp; omega
  · exact hh
  · have := (h.1 j i hh hi).2 hp.symm; omega
/-- one stop taken out, with all that it stands for -/
theorem cnn_drop {M : List (Int × Int × Int)} {n i : Nat} {P B E N : Nat → Int} (h : cnn M n P B E N) (hi : i < n) : cnn (M.filter (fun m => !wI (P i) (B i) (E i) m)) (n - 1) (drpF P i) (drpF B i) (drpF E i) (drpF N i) := by
  have h0 := h
  obtain ⟨h1, h2, h3, h4, h5, h6⟩ := h
  -- the place of the others
  have hx : ∀ j, j < n - 1 → ∃ k, k < n ∧ k ≠ i ∧ (k = if j < i then j else j + 1) ∧ drpF P i j = P k ∧ drpF B i j = B k ∧ drpF E i j = E k ∧ drpF N i j = N k := by
    intro j hj
    by_cases hji : j < i
    · exact ⟨j, by omega, by omega, by rw [if_pos hji], drpF_lt hji, drpF_lt hji, drpF_lt hji, drpF_lt hji⟩
    · exact ⟨j + 1, by omega, by omega, by rw [if_neg hji], drpF_ge hji, drpF_ge hji, drpF_ge hji, drpF_ge hji⟩
  have hnw : ∀ k, k < n → k ≠ i → ∀ m ∈ M, m.1 = P k → B k ≤ m.2.1 → m.2.2 ≤ E k → wI (P i) (B i) (E i) m = false := by
    intro k hk hki m hm r1 r2 r3
    cases hw : wI (P i) (B i) (E i) m with
    | false => rfl
    | true =>
      obtain ⟨w1, w2, w3⟩ := wI_t.mp hw
      have h9 := h6 m hm
      exact absurd (cnn_apart h0 hk hi (by omega) (by omega) (by omega)) hki
  refine ⟨fun a b hab hb => ?_, fun j hj => ?_, fun m hm => ?_, fun j hj y y0 y1 => ?_, fun j hj => ?_, fun m hm => h6 m (List.mem_filter.mp hm).1⟩
  · obtain ⟨k, k1, k2, k3, k4, k5, k6, k7⟩ := hx a (by omega)
    obtain ⟨q, q1, q2, q3, q4, q5, q6, q7⟩ := hx b hb
    rw [k4, k5, k6, q4, q5]
    exact h1 k q (by rw [k3, q3]; split <;> split <;> omega) q1
  · obtain ⟨k, k1, k2, k3, k4, k5, k6, k7⟩ := hx j hj
    rw [k5, k6]; exact h2 k k1
  · obtain ⟨hm1, hm2⟩ := List.mem_filter.mp hm
    obtain ⟨k, hk, r1, r2, r3⟩ := h3 m hm1
    have hki : k ≠ i := by
      intro e
      subst e
      have : wI (P k) (B k) (E k) m = true := wI_t.mpr ⟨r1, r2, r3⟩
      rw [this] at hm2
      exact absurd hm2 (by decide)
    by_cases hk2 : k < i
    · exact ⟨k, by omega, by rw [drpF_lt hk2, drpF_lt hk2, drpF_lt hk2]; exact ⟨r1, r2, r3⟩⟩
    · have h9 : ¬ k - 1 < i := by omega
      have e9 : k - 1 + 1 = k := by omega
      exact ⟨k - 1, by omega, by rw [drpF_ge h9, drpF_ge h9, drpF_ge h9, e9]; exact ⟨r1, r2, r3⟩⟩
  · obtain ⟨k, k1, k2, k3, k4, k5, k6, k7⟩ := hx j hj
    rw [k5] at y0
    rw [k6] at y1
    obtain ⟨m, hm, r1, r2, r3⟩ := h4 k k1 y y0 y1
    refine ⟨m, List.mem_filter.mpr ⟨hm, ?_⟩, by rw [k4]; exact r1, r2, r3⟩
    obtain ⟨q, hq, s1, s2, s3⟩ := h3 m hm
    have : q = k := cnn_apart h0 hq k1 (by omega) (by omega) (by omega)
    subst this
    rw [hnw q hq k2 m hm s1 s2 s3]; rfl
  · obtain ⟨k, k1, k2, k3, k4, k5, k6, k7⟩ := hx j hj
    rw [k4, k5, k6, k7, h5 k k1, List.countP_filter]
    congr 1
    refine List.countP_congr fun m hm => ?_
    constructor
    · intro hw
      obtain ⟨w1, w2, w3⟩ := wI_t.mp hw
      rw [hnw k k1 k2 m hm w1 w2 w3, hw]; rfl
    · intro hw
      exact (Bool.and_eq_true _ _ ▸ hw).1
/-- taken out and joined with what is being put -/
theorem lse_join {M M1 : List (Int × Int × Int)} {n i : Nat} {P B E N : Nat → Int} {p b e c : Int} (h : cnn M n P B E N) (hi : i < n) (hl : lse M1 p b e c) (hp : P i = p) (h1 : B i ≤ e) (h2 : b ≤ E i) : lse (M1 ++ M.filter (wI (P i) (B i) (E i))) p (min b (B i)) (max e (E i)) (c + N i) := by
  have h0 := h
  obtain ⟨a1, a2, a3, a4, a5, a6⟩ := h
  obtain ⟨l1, l2, l3, l4⟩ := hl
  have hbe := a2 i hi
  refine ⟨by omega, fun m hm => ?_, fun y y0 y1 => ?_, ?_⟩
  · rcases List.mem_append.mp hm with hm | hm
    · have := l2 m hm; omega
    · obtain ⟨hm1, hm2⟩ := List.mem_filter.mp hm
      have := wI_t.mp hm2
      have := a6 m hm1
      omega
  · by_cases hy : 2 * b ≤ y ∧ y ≤ 2 * e
    · obtain ⟨m, hm, r⟩ := l3 y hy.1 hy.2
      exact ⟨m, List.mem_append_left _ hm, r⟩
    · obtain ⟨m, hm, r1, r2, r3⟩ := a4 i hi y (by omega) (by omega)
      refine ⟨m, List.mem_append_right _ (List.mem_filter.mpr ⟨hm, ?_⟩), r2, r3⟩
      obtain ⟨q, hq, s1, s2, s3⟩ := a3 m hm
      have : q = i := cnn_apart h0 hq hi (by omega) (by omega) (by omega)
      subst this
      exact wI_t.mpr ⟨s1, s2, s3⟩
  · rw [List.length_append, a5 i hi, l4, List.countP_eq_length_filter]; omega
/-- put where it belongs, when it meets none -/
theorem cnn_ins {M M1 : List (Int × Int × Int)} {n i : Nat} {P B E N : Nat → Int} {p b e c : Int} (h : cnn M n P B E N) (hi : i ≤ n) (hl : lse M1 p b e c) (hn : ∀ j, j < n → P j = p → E j < b ∨ e < B j) (hlo : ∀ j, j < i → B j < b ∨ (B j = b ∧ P j ≤ p)) (hhi : ∀ j, i ≤ j → j < n → b < B j ∨ (b = B j ∧ p ≤ P j)) : cnn (M1 ++ M) (n + 1) (insF P i p) (insF B i b) (insF E i e) (insF N i c) := by
  have h0 := h
  obtain ⟨a1, a2, a3, a4, a5, a6⟩ := h
  obtain ⟨l1, l2, l3, l4⟩ := hl
  have hx : ∀ j, j < n + 1 → j ≠ i → ∃ k, k < n ∧ (k = if j < i then j else j - 1) ∧ insF P i p j = P k ∧ insF B i b j = B k ∧ insF E i e j = E k ∧ insF N i c j = N k := by
    intro j hj hji
    by_cases hlt : j < i
    · exact ⟨j, by omega, by rw [if_pos hlt], insF_lt hlt, insF_lt hlt, insF_lt hlt, insF_lt hlt⟩
    · have : i < j := by omega
      exact ⟨j - 1, by omega, by rw [if_neg hlt], insF_gt this, insF_gt this, insF_gt this, insF_gt this⟩
  have hM1 : ∀ k, k < n → ∀ m ∈ M1, wI (P k) (B k) (E k) m = false := by
    intro k hk m hm
    cases hw : wI (P k) (B k) (E k) m with
    | false => rfl
    | true =>
      have w := wI_t.mp hw
      have r := l2 m hm
      have := hn k hk (by omega)
      omega
  have hM : ∀ m ∈ M, wI p b e m = false := by
    intro m hm
    cases hw : wI p b e m with
    | false => rfl
    | true =>
      have w := wI_t.mp hw
      have r := a6 m hm
      obtain ⟨k, hk, s1, s2, s3⟩ := a3 m hm
      have := hn k hk (by omega)
      omega
  refine ⟨fun x y hxy hy => ?_, fun j hj => ?_, fun m hm => ?_, fun j hj y y0 y1 => ?_, fun j hj => ?_, fun m hm => ?_⟩
  · by_cases hxi : x = i
    · subst hxi
      obtain ⟨k, k1, k2, k3, k4, k5, k6⟩ := hx y hy (by omega)
      rw [if_neg (by omega)] at k2
      rw [insF_eq, insF_eq, insF_eq, k3, k4]
      have g1 := hhi k (by omega) k1
      have g2 := hn k k1
      have g3 := a2 k k1
      exact ⟨by omega, fun hp => by have := g2 hp.symm; omega⟩
    · obtain ⟨k, k1, k2, k3, k4, k5, k6⟩ := hx x (by omega) hxi
      by_cases hyi : y = i
      · subst hyi
        rw [if_pos (by omega)] at k2
        rw [insF_eq, insF_eq, k3, k4, k5]
        have g1 := hlo k (by omega)
        have g2 := hn k k1
        have g3 := a2 k k1
        exact ⟨by omega, fun hp => by have := g2 hp; omega⟩
      · obtain ⟨q, q1, q2, q3, q4, q5, q6⟩ := hx y hy hyi
        rw [k3, k4, k5, q3, q4]
        exact a1 k q (by rw [k2, q2]; split <;> split <;> omega) q1
  · by_cases hji : j = i
    · subst hji; rw [insF_eq, insF_eq]; exact l1
    · obtain ⟨k, k1, k2, k3, k4, k5, k6⟩ := hx j hj hji
      rw [k4, k5]; exact a2 k k1
  · rcases List.mem_append.mp hm with hm | hm
    · have r := l2 m hm
      exact ⟨i, by omega, by rw [insF_eq, insF_eq, insF_eq]; exact ⟨r.1, r.2.1, r.2.2.1⟩⟩
    · obtain ⟨k, hk, r⟩ := a3 m hm
      by_cases hki : k < i
      · exact ⟨k, by omega, by rw [insF_lt hki, insF_lt hki, insF_lt hki]; exact r⟩
      · have h9 : i < k + 1 := by omega
        exact ⟨k + 1, by omega, by rw [insF_gt h9, insF_gt h9, insF_gt h9, Nat.add_sub_cancel]; exact r⟩
  · by_cases hji : j = i
    · subst hji
      rw [insF_eq] at y0 y1
      obtain ⟨m, hm, r⟩ := l3 y y0 y1
      exact ⟨m, List.mem_append_left _ hm, by rw [insF_eq]; exact (l2 m hm).1, r⟩
    · obtain ⟨k, k1, k2, k3, k4, k5, k6⟩ := hx j hj hji
      rw [k4] at y0
      rw [k5] at y1
      obtain ⟨m, hm, r⟩ := a4 k k1 y y0 y1
      exact ⟨m, List.mem_append_right _ hm, by rw [k3]; exact r⟩
  · by_cases hji : j = i
    · subst hji
      have z : M.countP (wI p b e) = 0 := List.countP_eq_zero.mpr fun m hm => by rw [hM m hm]; decide
      have z1 : M1.countP (wI p b e) = M1.length := List.countP_eq_length.mpr fun m hm => wI_t.mpr ⟨(l2 m hm).1, (l2 m hm).2.1, (l2 m hm).2.2.1⟩
      rw [insF_eq, insF_eq, insF_eq, insF_eq, List.countP_append, z, z1, l4]; rfl
    · obtain ⟨k, k1, k2, k3, k4, k5, k6⟩ := hx j hj hji
      have z : M1.countP (wI (P k) (B k) (E k)) = 0 := List.countP_eq_zero.mpr fun m hm => by rw [hM1 k k1 m hm]; decide
      rw [k3, k4, k5, k6, List.countP_append, z, Nat.zero_add]
      exact a5 k k1
  · rcases List.mem_append.mp hm with hm | hm
    · exact (l2 m hm).2.2.2
    · exact a6 m hm
/-- every stop of one such list is in the other -/
theorem cnn_emb {M : List (Int × Int × Int)} {n n' : Nat} {P B E N P' B' E' N' : Nat → Int} (h : cnn M n P B E N) (h' : cnn M n' P' B' E' N') {i : Nat} (hi : i < n) : ∃ j, j < n' ∧ P' j = P i ∧ B' j = B i ∧ E' j = E i := by
  have hbe := h.2.1 i hi
  obtain ⟨m, hm, r1, r2, r3⟩ := h.2.2.2.1 i hi (2 * B i) (by omega) (by omega)
  obtain ⟨j, hj, s1, s2, s3⟩ := h'.2.2.1 m hm
  have hbe' := h'.2.1 j hj
  have e1 : B' j = B i := by
    have hle : B' j ≤ B i := by omega
    rcases Int.lt_or_eq_of_le hle with hlt | he
    · exfalso
      obtain ⟨m2, hm2, u1, u2, u3⟩ := h'.2.2.2.1 j hj (2 * B i - 1) (by omega) (by omega)
      obtain ⟨k, hk, v1, v2, v3⟩ := h.2.2.1 m2 hm2
      have hbk := h.2.1 k hk
      have : k = i := cnn_apart h hk hi (by omega) (by omega) (by omega)
      subst this
      omega
    · exact he
  refine ⟨j, hj, by omega, e1, ?_⟩
  rcases Int.lt_trichotomy (E' j) (E i) with hlt | he | hlt
  · exfalso
    obtain ⟨m2, hm2, u1, u2, u3⟩ := h.2.2.2.1 i hi (2 * E' j + 1) (by omega) (by omega)
    obtain ⟨k, hk, v1, v2, v3⟩ := h'.2.2.1 m2 hm2
    have : k = j := cnn_apart h' hk hj (by omega) (by omega) (by omega)
    subst this
    omega
  · exact he
  · exfalso
    obtain ⟨m2, hm2, u1, u2, u3⟩ := h'.2.2.2.1 j hj (2 * E i + 1) (by omega) (by omega)
    obtain ⟨k, hk, v1, v2, v3⟩ := h.2.2.1 m2 hm2
    have : k = i := cnn_apart h hk hi (by omega) (by omega) (by omega)
    subst this
    omega
theorem mono_ge {n : Nat} {f : Nat → Nat} (h : ∀ i j, i < j → j < n → f i < f j) : ∀ i, i < n → i ≤ f i := by
  intro i
  induction i with
  | zero => intro _; exact Nat.zero_le _
  | succ i ih =>
    intro hi
    have := ih (by omega)
    have := h i (i + 1) (by omega) hi
    omega
theorem cnn_map {M : List (Int × Int × Int)} {n n' : Nat} {P B E N P' B' E' N' : Nat → Int} (h : cnn M n P B E N) (h' : cnn M n' P' B' E' N') : ∃ f : Nat → Nat, (∀ i, i < n → f i < n' ∧ P' (f i) = P i ∧ B' (f i) = B i ∧ E' (f i) = E i) ∧ ∀ i j, i < j → j < n → f i < f j := by
  refine ⟨fun i => if hi : i < n then Classical.choose (cnn_emb h h' hi) else 0, fun i hi => ?_, fun i j hij hj => ?_⟩
  · have := Classical.choose_spec (cnn_emb h h' hi)
    simp only [dif_pos hi]
    exact this
  · have hi : i < n := by omega
    have s1 := Classical.choose_spec (cnn_emb h h' hi)
    have s2 := Classical.choose_spec (cnn_emb h h' hj)
    simp only [dif_pos hi, dif_pos hj]
    generalize Classical.choose (cnn_emb h h' hi) = x at *
    generalize Classical.choose (cnn_emb h h' hj) = y at *
    have g := (h.1 i j hij hj).1
    rcases Nat.lt_trichotomy x y with hh | hh | hh
    · exact hh
    · subst hh; omega
    · have g' := (h'.1 y x hh s1.1).1
      omega
theorem cnn_uniq {M : List (Int × Int × Int)} {n n' : Nat} {P B E N P' B' E' N' : Nat → Int} (h : cnn M n P B E N) (h' : cnn M n' P' B' E' N') : n = n' ∧ ∀ i, i < n → P' i = P i ∧ B' i = B i ∧ E' i = E i ∧ N' i = N i := by
  obtain ⟨f, f1, f2⟩ := cnn_map h h'
  obtain ⟨g, g1, g2⟩ := cnn_map h' h
  have hf := mono_ge f2
  have hg := mono_ge g2
  have hn : n ≤ n' := by
    rcases Nat.eq_zero_or_pos n with h0 | h0
    · omega
    · have := hf (n - 1) (by omega)
      have := (f1 (n - 1) (by omega)).1
      omega
  have hn' : n' ≤ n := by
    rcases Nat.eq_zero_or_pos n' with h0 | h0
    · omega
    · have := hg (n' - 1) (by omega)
      have := (g1 (n' - 1) (by omega)).1
      omega
  refine ⟨by omega, fun i hi => ?_⟩
  have hfi := f1 i hi
  have hgi := g1 (f i) hfi.1
  have e : g (f i) = i := by
    rcases Nat.lt_trichotomy (g (f i)) i with hh | hh | hh
    · have := (h.1 _ _ hh hi).1; omega
    · exact hh
    · have := (h.1 _ _ hh hgi.1).1; omega
  have h1 := hf i hi
  have h2 := hg (f i) hfi.1
  have e2 : f i = i := by omega
  rw [e2] at hfi
  refine ⟨hfi.2.1, hfi.2.2.1, hfi.2.2.2, ?_⟩
  rw [h'.2.2.2.2.1 i hfi.1, h.2.2.2.2.1 i hi, hfi.2.1, hfi.2.2.1, hfi.2.2.2]
theorem lse_one {p b e : Int} (h : b < e) : lse [(p, b, e)] p b e 1 :=
  ⟨h, fun m hm => by rw [List.mem_singleton] at hm; subst hm; exact ⟨rfl, Int.le_refl _, Int.le_refl _, h⟩, fun y y0 y1 => ⟨_, List.mem_singleton.mpr rfl, y0, y1⟩, rfl⟩
/-- the stops of one day, of the first slots -/
def SLs (f : Int → Int → Int) (d : Int) : Nat → List (Int × Int × Int)
  | 0 => []
  | k + 1 => if f k 1 = d then (f k 0, f k 2, f k 3) :: SLs f d k else SLs f d k
theorem SLs_len {f : Int → Int → Int} {d : Int} : ∀ k, (SLs f d k).length ≤ k := by
  intro k
  induction k with
  | zero => exact Nat.le_refl _
  | succ k ih =>
    rw [SLs]
    split
    · rw [List.length_cons]; omega
    · omega
