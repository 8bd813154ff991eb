/-! ===== the constructors lay out the objects of the run ===== -/
def a0 : Nat → Nat → Nat := fun _ j => j
def kP (L n : Nat) : Nat → Nat × Nat := fun q => if q < n then K0 L q else (0, 0)
def gQ (g : Nat → Nat → Nat) (B w : Nat) : Nat → Nat → Nat := fun q j => if B ≤ q ∧ q < B + w then G a0 q j else g q j
section INI
variable {L n B w : Nat} {u : Nat → Nat → Int} {g : Nat → Nat → Nat} {c s : Nat}
theorem kP_at {q : Nat} (h : q < n) : kP L n q = K0 L q := if_pos h
theorem new_at {k len sl : Nat} (hK : K0 L n = (k, len)) (hu : u n = fun _ => 0) (hg : g n = fun _ => 0) : a_new (kP L n, u, g, (n, c, s)) k len sl = (kP L (n + 1), u, g, (n + 1, c + 1, s + sl)) := by
  have e1 : upk (kP L n) n (k, len) = kP L (n + 1) := by
    funext q
    unfold upk kP
    by_cases h : q = n
    · rw [if_pos h, if_pos (by omega), h, hK]
    · rw [if_neg h]
      by_cases h2 : q < n
      · rw [if_pos h2, if_pos (by omega)]
      · rw [if_neg h2, if_neg (by omega)]
  have e2 : upr u n (fun _ => 0) = u := by rw [← hu, upr_self]
  have e3 : upr g n (fun _ => 0) = g := by rw [← hg, upr_self]
  show (upk (kP L n) n (k, len), upr u n (fun _ => 0), upr g n (fun _ => 0), (n + 1, c + 1, s + sl)) = _
  rw [e1, e2, e3]
theorem gQ_in {q : Nat} (h : B ≤ q ∧ q < B + w) : gQ g B w q = G a0 q := by funext j; exact if_pos h
theorem gQ_out {q : Nat} (h : ¬ (B ≤ q ∧ q < B + w)) : gQ g B w q = g q := by funext j; exact if_neg h
theorem gQ_Z {m : Nat} (hg : ∀ q, m ≤ q → g q = fun _ => 0) (h : B + w ≤ m) : ∀ q, m ≤ q → gQ g B w q = fun _ => 0 := fun q hq => by rw [gQ_out (by omega)]; exact hg q hq
theorem upm_Z {m r i x : Nat} (hg : ∀ q, m ≤ q → g q = fun _ => 0) (h : r < m) : ∀ q, m ≤ q → upm g r i x q = fun _ => 0 := fun q hq => by rw [upm_rf (by omega)]; exact hg q hq
/-- a row of objects: the row q0, the objects of w cells from B on -/
def gRow (g : Nat → Nat → Nat) (q0 B w i : Nat) : Nat → Nat → Nat := fun q j => if q = q0 then (if j < i then B + w * j else 0) else if B ≤ q ∧ q < B + w * i then G a0 q j else g q j
theorem gRow_0 {q0 : Nat} (h : g q0 = fun _ => 0) : gRow g q0 B w 0 = g := by
  funext q j
  unfold gRow
  by_cases hq : q = q0
  · rw [if_pos hq, if_neg (by omega), hq, h]
  · rw [if_neg hq, if_neg (by rw [Nat.mul_zero]; omega)]
theorem gRow_s {q0 i : Nat} (h : q0 < B) : upm (gQ (gRow g q0 B w i) (B + w * i) w) q0 i (B + w * i) = gRow g q0 B w (i + 1) := by
  funext q j
  have e : w * (i + 1) = w * i + w := Nat.mul_succ w i
  unfold upm gQ gRow
  by_cases hq : q = q0
  · subst hq
    by_cases hj : j = i
    · subst hj
      rw [if_pos ⟨rfl, rfl⟩, if_pos rfl, if_pos (by omega)]
    · rw [if_neg (fun h => hj h.2), if_neg (by omega), if_pos rfl, if_pos rfl]
      by_cases h2 : j < i
      · rw [if_pos h2, if_pos (by omega)]
      · rw [if_neg h2, if_neg (by omega)]
  · rw [if_neg (fun h => hq h.1), if_neg hq, if_neg hq, e]
    by_cases h1 : B + w * i ≤ q ∧ q < B + w * i + w
    · rw [if_pos h1, if_pos (by omega)]
    · rw [if_neg h1]
      by_cases h2 : B ≤ q ∧ q < B + w * i
      · rw [if_pos h2, if_pos (by omega)]
      · rw [if_neg h2, if_neg (by omega)]
theorem gRow_Z {q0 i m : Nat} (hg : ∀ q, m ≤ q → g q = fun _ => 0) (h : q0 < m) (h2 : B + w * i ≤ m) : ∀ q, m ≤ q → gRow g q0 B w i q = fun _ => 0 := fun q hq => by
  funext j
  unfold gRow
  rw [if_neg (by omega), if_neg (by omega), hg q hq]
/-! a signal -/
theorem I_sig {S : Nat} (k0 : K0 L S = (7, 0)) (k1 : K0 L (S + 1) = (20, 6)) (k2 : K0 L (S + 2) = (20, 12)) (g0 : ∀ j, G a0 S j = if j = 6 then S + 1 else if j = 7 then S + 2 else 0) (g1 : ∀ j, G a0 (S + 1) j = 0) (g2 : ∀ j, G a0 (S + 2) j = 0) (hu : ∀ q, S ≤ q → u q = fun _ => 0) (hg : ∀ q, S ≤ q → g q = fun _ => 0) : a_m 67 [a_r S] (kP L (S + 1), u, g, (S + 1, c, s)) = some (.inl none, (kP L (S + 3), u, gQ g S 3, (S + 3, c + 2, s + 18))) := by
  have e : gQ g S 3 = upm (upm g S 6 (S + 1)) S 7 (S + 2) := by
    funext q j
    unfold gQ upm
    by_cases h : S ≤ q ∧ q < S + 3
    · rw [if_pos h]
      have hz : g q j = 0 := by rw [hg q h.1]
      have hq : q = S ∨ q = S + 1 ∨ q = S + 2 := by omega
      rw [hz]
      rcases hq with rfl | rfl | rfl
      · rw [g0]
        by_cases h6 : j = 6
        · subst h6; simp
        · by_cases h7 : j = 7
          · subst h7; simp
          · simp [h6, h7]
      · rw [g1, if_neg (by omega), if_neg (by omega)]
      · rw [g2, if_neg (by omega), if_neg (by omega)]
    · rw [if_neg h, if_neg (by omega), if_neg (by omega)]
  rw [e]
  simp (disch := first | assumption | omega | exact hu _ (by omega) | exact hg _ (by omega) | (simp (disch := omega) only [upm_rf]; exact hg _ (by omega))) only [E_X6_init, B_X6_init_0, B_X6_init_9, B_X6_init_17, Option.bind_some, back_v, Option.toList_some, Option.toList_none, List.cons_append, List.nil_append, Nat.reduceAdd, Int.reduceToNat, Int.reduceNeg, upm_eq, upm_r, upm_i, if_pos, if_neg, ite_self, true_or, or_true, true_and, and_true, false_or, or_false, false_and, and_false, wr_id, i10, i01, upr_f, upr_eq, thr58, upm_upr, upr_upr, lc_lt, lc_gt, lc_ge, lc_le, afit1, afit0, afitI, bifit, not_true_eq_false, not_false_eq_true, if_true, if_false, Bool.false_eq_true, reduceCtorEq, k1557, k1558, g1557_2, kP_at, k0, new_at, Nat.add_assoc]
end INI
