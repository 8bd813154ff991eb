/-! ===== what the class's radio and the reference's row of numbers have to do with each other ===== -/
/-- a radio's own objects, from its base on -/
def vw (u : Nat → Nat → Int) (R : Nat) : Nat → Nat → Int := fun c j => if c < 127 then u (R + c) j else 0
theorem vw_at {u : Nat → Nat → Int} {R c : Nat} (h : c < 127) : vw u R c = u (R + c) := by funext j; simp [vw, h]
theorem vw_upm {u : Nat → Nat → Int} {R c j : Nat} {x : Int} (h : c < 127) : vw (upm u (R + c) j x) R = upm (vw u R) c j x := by
  funext q i
  simp only [vw, upm]
  by_cases hq : q < 127
  · simp only [if_pos hq, Nat.add_left_cancel_iff]
  · rw [if_neg hq, if_neg (by omega), if_neg hq]
theorem vw_upr {u : Nat → Nat → Int} {R c : Nat} {w : Nat → Int} (h : c < 127) : vw (upr u (R + c) w) R = upr (vw u R) c w := by
  funext q i
  simp only [vw, upr]
  by_cases hq : q < 127
  · simp only [if_pos hq, Nat.add_left_cancel_iff]
  · rw [if_neg hq, if_neg (by omega), if_neg hq]
/-- nothing outside a radio's objects differs -/
def outR (R : Nat) (u u' : Nat → Nat → Int) : Prop := ∀ q, (q < R ∨ R + 127 ≤ q) → u' q = u q
theorem outR.refl {R : Nat} {u : Nat → Nat → Int} : outR R u u := fun _ _ => rfl
theorem outR.trans {R : Nat} {u v w : Nat → Nat → Int} (h : outR R u v) (h2 : outR R v w) : outR R u w := fun q hq => (h2 q hq).trans (h q hq)
theorem outR_upm {R c j : Nat} {u : Nat → Nat → Int} {x : Int} (h : c < 127) : outR R u (upm u (R + c) j x) := fun q hq => upm_rf (by omega)
theorem outR_upr {R c : Nat} {u : Nat → Nat → Int} {w : Nat → Int} (h : c < 127) : outR R u (upr u (R + c) w) := fun q hq => upr_rf (by omega)
theorem vw_out {R Q : Nat} {u u' : Nat → Nat → Int} (h : outR R u u') (hd : Q + 126 < R ∨ R + 126 < Q) : vw u' Q = vw u Q := by
  funext c j
  simp only [vw]
  split
  · rw [h (Q + c) (by omega)]
  · rfl
def vW (v : Nat → Nat → Int) (row w : Int) : Int := if w = 0 then v 2 row.toNat else if w = 1 then v 3 row.toNat else if w = 2 then v 4 row.toNat else v 5 row.toNat
theorem cW_vW {u : Nat → Nat → Int} {R : Nat} {row w : Int} : cW u R row w = vW (vw u R) row w := by
  unfold cW vW
  rw [vw_at (by decide), vw_at (by decide), vw_at (by decide), vw_at (by decide)]
def wfS (f : Int → Int) : Prop := (f 0 = -1 ∧ f 1 = -1 ∧ f 2 = -1 ∧ f 3 = -1) ∨ ((0 ≤ f 0 ∧ f 0 ≤ 29) ∧ (0 ≤ f 1 ∧ f 1 ≤ 6) ∧ 0 ≤ f 2 ∧ f 2 < f 3 ∧ f 3 ≤ 1439)
def tb (x l : Int) : Bool := decide (zand (zshr x l) 1 = 1)
def hdR (v : Nat → Nat → Int) (s : Nat → Int) : Prop := v 0 4 = s 3 ∧ v 0 5 = s 0 ∧ v 0 6 = s 1 ∧ v 0 7 = s 5 ∧ v 0 8 = s 6 ∧ v 1 7 = s 2 ∧ v 10 1 = s 4
def rowsR (v : Nat → Nat → Int) (s : Nat → Int) : Prop := ∀ row, 0 ≤ row → row < 12 + s 2 → wfS (vW v row)
def corR (v : Nat → Nat → Int) (s : Nat → Int) : Prop := ∀ n : Int, 1 ≤ n → n ≤ s 2 → (0 ≤ v 6 n.toNat ∧ v 6 n.toNat < 12) ∧ mCo s n 0 = v 6 n.toNat ∧ (∀ w, 0 ≤ w → w < 4 → mCo s n (1 + w) = vW v (11 + n) w) ∧ mCo s n 5 = v 7 n.toNat
def heardR (v : Nat → Nat → Int) (s : Nat → Int) : Prop := ∀ n : Int, 1 ≤ n → n ≤ s 2 → (0 ≤ v 8 n.toNat ∧ v 8 n.toNat < 64) ∧ ∀ l, 0 ≤ l → l < 6 → tb (v 8 n.toNat) l = (decide (l < s 3) && mHeard s l n)
/-- the versions in one row, and what they tell -/
def slR (v : Nat → Nat → Int) (q : Nat) (n2 : Int) (f : Int → Int → Int) : Prop := ∀ k : Int, 0 ≤ k → k < 12 → (0 ≤ v q k.toNat ∧ v q k.toNat ≤ n2) ∧ (0 < v q k.toNat → v 6 (v q k.toNat).toNat = k) ∧ f k 4 = v q k.toNat ∧ ∀ w, 0 ≤ w → w < 4 → f k w = vW v (rowI k (v q k.toNat)) w
def qOf (l : Int) : Nat := if l = -1 then 9 else 106 + 4 * l.toNat
def lstR (v : Nat → Nat → Int) (s : Nat → Int) : Prop := ∀ l, -1 ≤ l → l < s 3 → slR v (qOf l) (s 2) (mOf s l)
def lis1 (v : Nat → Nat → Int) (s : Nat → Int) (l : Int) : Prop :=
  v (103 + 4 * l.toNat) 0 = mLi s l 0 ∧ v (103 + 4 * l.toNat) 1 = mLi s l 1 ∧ v (103 + 4 * l.toNat) 5 = mLi s l 10 ∧ v (103 + 4 * l.toNat) 6 = mLi s l 11 ∧ v (103 + 4 * l.toNat) 7 = mLi s l 12 ∧ v (103 + 4 * l.toNat) 8 = mLi s l 13 ∧ v (103 + 4 * l.toNat) 9 = mLi s l 14 ∧ (0 ≤ mLi s l 10 ∧ mLi s l 10 ≤ s 2) ∧ (0 ≤ mLi s l 11 ∧ mLi s l 11 ≤ s 2) ∧
  ∀ i, 0 ≤ i → i < mLi s l 1 → v (104 + 4 * l.toNat) i.toNat = mLi s l (2 + 2 * i) ∧ v (105 + 4 * l.toNat) i.toNat = mLi s l (2 + 2 * i + 1)
def lisR (v : Nat → Nat → Int) (s : Nat → Int) : Prop := ∀ l, 0 ≤ l → l < s 3 → lis1 v s l
/-- one thing on the air -/
def sgR (v : Nat → Nat → Int) (s : Nat → Int) (B : Nat) (c : Nat → Int) : Prop :=
  v B 0 = c 1 ∧ v B 1 = (if c 0 = 1 then -1 else v 6 (c 1).toNat) ∧ v B 2 = c 2 ∧ v B 3 = c 3 ∧ v B 4 = minW (s 3).toNat 0 (c 2 + 29) (fun l => c (5 + l).toNat) ∧ v B 5 = maxW (s 3).toNat 0 (c 2) (fun l => c (5 + l).toNat) ∧
  (∀ l, 0 ≤ l → l < s 3 → v (B + 1) l.toNat = c (5 + l).toNat ∧ c 2 < c (5 + l).toNat ∧ c (5 + l).toNat ≤ c 2 + 29) ∧ (0 ≤ c 2 ∧ c 2 ≤ s 1) ∧ (c 0 = 0 ∨ c 0 = 1) ∧ (0 ≤ c 1 ∧ c 1 ≤ s 2) ∧ (c 0 = 0 → 1 ≤ c 1) ∧
  (c 0 = 1 → slR v (B + 2) (s 2) (fun k w => c (11 + 5 * k + w).toNat))
def airR (v : Nat → Nat → Int) (b : Nat → Nat) (C : List (Nat → Int)) (s : Nat → Int) : Prop :=
  (∀ p, p < 30 → b p < 30) ∧ (∀ p q, p < 30 → q < 30 → b p = b q → p = q) ∧ C.Perm (airL s) ∧ C.Pairwise (fun x y => bRank x < bRank y) ∧ ∀ (p : Nat) (hp : p < C.length), sgR v s (12 + 3 * b p) C[p]
def RelC (v : Nat → Nat → Int) (b : Nat → Nat) (C : List (Nat → Int)) (s : Nat → Int) : Prop :=
  hdR v s ∧ rowsR v s ∧ corR v s ∧ heardR v s ∧ lstR v s ∧ lisR v s ∧ airR v b C s
def Rel (v : Nat → Nat → Int) (b : Nat → Nat) (s : Nat → Int) : Prop := ∃ C, RelC v b C s
/-! ### what is not touched stays so -/
theorem hdR_congr {v v' : Nat → Nat → Int} {s s' : Nat → Int} (h : hdR v s) (h0 : ∀ j, 4 ≤ j → j < 9 → v' 0 j = v 0 j) (h1 : v' 1 7 = v 1 7) (h2 : v' 10 1 = v 10 1) (hs : ∀ j, j < 8 → s' j = s j) : hdR v' s' := by
  obtain ⟨a1, a2, a3, a4, a5, a6, a7⟩ := h
  refine ⟨?_, ?_, ?_, ?_, ?_, ?_, ?_⟩
  · rw [h0 _ (by decide) (by decide), hs _ (by decide)]; exact a1
  · rw [h0 _ (by decide) (by decide), hs _ (by decide)]; exact a2
  · rw [h0 _ (by decide) (by decide), hs _ (by decide)]; exact a3
  · rw [h0 _ (by decide) (by decide), hs _ (by decide)]; exact a4
  · rw [h0 _ (by decide) (by decide), hs _ (by decide)]; exact a5
  · rw [h1, hs _ (by decide)]; exact a6
  · rw [h2, hs _ (by decide)]; exact a7
/-- the rows of what was told are the same -/
def tldS (v v' : Nat → Nat → Int) : Prop := ∀ c, 2 ≤ c → c ≤ 7 → v' c = v c
theorem vW_congr {v v' : Nat → Nat → Int} (h : tldS v v') : vW v' = vW v := by
  funext row w
  unfold vW
  rw [h 2 (by decide) (by decide), h 3 (by decide) (by decide), h 4 (by decide) (by decide), h 5 (by decide) (by decide)]
theorem rowsR_congr {v v' : Nat → Nat → Int} {s s' : Nat → Int} (h : rowsR v s) (ht : tldS v v') (h2 : s' 2 = s 2) : rowsR v' s' := by
  intro row r0 r1
  rw [vW_congr ht]
  rw [h2] at r1
  exact h row r0 r1
theorem corR_congr {v v' : Nat → Nat → Int} {s s' : Nat → Int} (h : corR v s) (ht : tldS v v') (h2 : s' 2 = s 2) (h99 : s 2 ≤ 99) (hs : ∀ j, 550 ≤ j → j < 1150 → s' j = s j) : corR v' s' := by
  intro n n1 n2
  rw [h2] at n2
  obtain ⟨a1, a2, a3, a4⟩ := h n n1 n2
  have e : ∀ w, 0 ≤ w → w < 6 → mCo s' n w = mCo s n w := fun w w0 w1 => by simp only [mCo]; exact hs _ (by omega) (by omega)
  rw [ht 6 (by decide) (by decide), ht 7 (by decide) (by decide), vW_congr ht, e 0 (by decide) (by decide), e 5 (by decide) (by decide)]
  exact ⟨a1, a2, fun w w0 w1 => by rw [e (1 + w) (by omega) (by omega)]; exact a3 w w0 w1, a4⟩
theorem heardR_congr {v v' : Nat → Nat → Int} {s s' : Nat → Int} (h : heardR v s) (h8 : v' 8 = v 8) (h2 : s' 2 = s 2) (h3 : s' 3 = s 3) (hm : ∀ l n, 0 ≤ l → l < s 3 → 1 ≤ n → n ≤ s 2 → mHeard s' l n = mHeard s l n) : heardR v' s' := by
  intro n n1 n2
  rw [h2] at n2
  obtain ⟨a1, a2⟩ := h n n1 n2
  rw [h8, h3]
  refine ⟨a1, fun l l0 l6 => ?_⟩
  rw [a2 l l0 l6]
  by_cases hl : l < s 3
  · rw [hm l n l0 hl n1 n2]
  · simp [hl]
theorem slR_congr {v v' : Nat → Nat → Int} {q q' : Nat} {n2 n2' : Int} {f f' : Int → Int → Int} (h : slR v q n2 f) (ht : tldS v v') (hq : ∀ j, j < 12 → v' q' j = v q j) (hn : n2 ≤ n2') (hf : ∀ k w, 0 ≤ k → k < 12 → 0 ≤ w → w < 5 → f' k w = f k w) : slR v' q' n2' f' := by
  intro k k0 k1
  obtain ⟨a1, a2, a3, a4⟩ := h k k0 k1
  rw [hq _ (by omega), ht 6 (by decide) (by decide), vW_congr ht, hf k 4 k0 k1 (by decide) (by decide)]
  exact ⟨⟨a1.1, by omega⟩, a2, a3, fun w w0 w1 => by rw [hf k w k0 k1 w0 (by omega)]; exact a4 w w0 w1⟩
theorem lis1_congr {v v' : Nat → Nat → Int} {s s' : Nat → Int} {l : Int} (h : lis1 v s l) (h0 : v' (103 + 4 * l.toNat) = v (103 + 4 * l.toNat)) (h1 : v' (104 + 4 * l.toNat) = v (104 + 4 * l.toNat)) (h2 : v' (105 + 4 * l.toNat) = v (105 + 4 * l.toNat)) (hn : s' 2 = s 2) (hg : mLi s l 1 ≤ 4) (hs : ∀ w, 0 ≤ w → w < 19 → mLi s' l w = mLi s l w) : lis1 v' s' l := by
  obtain ⟨a1, a2, a3, a4, a5, a6, a7, a8, a9, a10⟩ := h
  unfold lis1
  rw [h0, h1, h2, hn, hs 0 (by decide) (by decide), hs 1 (by decide) (by decide), hs 10 (by decide) (by decide), hs 11 (by decide) (by decide), hs 12 (by decide) (by decide), hs 13 (by decide) (by decide), hs 14 (by decide) (by decide)]
  refine ⟨a1, a2, a3, a4, a5, a6, a7, a8, a9, fun i i0 i1 => ?_⟩
  rw [hs _ (by omega) (by omega), hs _ (by omega) (by omega)]
  exact a10 i i0 i1
theorem sgR_congr {v v' : Nat → Nat → Int} {s s' : Nat → Int} {B B' : Nat} {c : Nat → Int} (h : sgR v s B c) (ht : tldS v v') (h0 : v' B' = v B) (h1 : v' (B' + 1) = v (B + 1)) (h2 : v' (B' + 2) = v (B + 2)) (hs1 : s 1 ≤ s' 1) (hs2 : s' 2 = s 2) (hs3 : s' 3 = s 3) : sgR v' s' B' c := by
  obtain ⟨a1, a2, a3, a4, a5, a6, a7, a8, a9, a10, a11, a12⟩ := h
  unfold sgR
  rw [h0, h1, hs2, hs3, ht 6 (by decide) (by decide)]
  exact ⟨a1, a2, a3, a4, a5, a6, a7, ⟨a8.1, by omega⟩, a9, a10, a11, fun hc => slR_congr (a12 hc) ht (fun j _ => by rw [h2]) (Int.le_refl _) (fun _ _ _ _ _ _ => rfl)⟩
theorem airR_congr {v v' : Nat → Nat → Int} {b : Nat → Nat} {C : List (Nat → Int)} {s s' : Nat → Int} (h : airR v b C s) (ht : tldS v v') (hv : ∀ c, 12 ≤ c → c < 102 → v' c = v c) (hl : C.length ≤ 30) (hs1 : s 1 ≤ s' 1) (hs2 : s' 2 = s 2) (hs3 : s' 3 = s 3) (hA : airL s' = airL s) : airR v' b C s' := by
  obtain ⟨a1, a2, a3, a4, a5⟩ := h
  refine ⟨a1, a2, by rw [hA]; exact a3, a4, fun p hp => ?_⟩
  have hb := a1 p (by omega)
  exact sgR_congr (a5 p hp) ht (hv _ (by omega) (by omega)) (hv _ (by omega) (by omega)) (hv _ (by omega) (by omega)) hs1 hs2 hs3
theorem airR_len {v : Nat → Nat → Int} {b : Nat → Nat} {C : List (Nat → Int)} {s : Nat → Int} (h : airR v b C s) : C.length = (s 4).toNat := by
  rw [h.2.2.1.length_eq, airL_len]
/-- under the relation a list of the class is that of the reference -/
theorem cF_of {u : Nat → Nat → Int} {R : Nat} {s : Nat → Int} {l : Int} (h : slR (vw u R) (qOf l) (s 2) (mOf s l)) (hl : l < 6) (k w : Int) (hk : 0 ≤ k ∧ k < 12) (hw : 0 ≤ w ∧ w < 4) : cF u R (R + qOf l) k w = mOf s l k w := by
  obtain ⟨-, -, -, a4⟩ := h k hk.1 hk.2
  rw [a4 w hw.1 hw.2, cF, cW_vW, vw_at (c := qOf l) (by unfold qOf; split <;> omega)]
theorem vOK_of {u : Nat → Nat → Int} {R : Nat} {s : Nat → Int} {l : Int} (h : slR (vw u R) (qOf l) (s 2) (mOf s l)) (hl : l < 6) (h2 : s 2 ≤ 99) : vOK u (R + qOf l) := by
  intro k k0 k1
  obtain ⟨a1, -⟩ := h k k0 k1
  rw [vw_at (c := qOf l) (by unfold qOf; split <;> omega)] at a1
  omega
theorem kq_of {L R : Nat} {l : Int} (hR : isRad R) (hl : -1 ≤ l ∧ l < 6) : K0 L (R + qOf l) = (20, 12) := by
  unfold qOf
  split
  · exact kR9 hR
  · rw [← Nat.add_assoc]; exact kRl3 hR (by omega)
