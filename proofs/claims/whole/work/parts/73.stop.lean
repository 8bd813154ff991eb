/-! ===== a line of a stop, on both sides at once ===== -/
def vf4 (p d f e w : Int) : Int := if w = 0 then p else if w = 1 then d else if w = 2 then f else e
theorem upm_ite {α : Type} {f : Nat → Nat → α} {r i j : Nat} {x : α} : upm f r i x r j = if j = i then x else f r j := by
  unfold upm; by_cases h : j = i
  · rw [if_pos ⟨rfl, h⟩, if_pos h]
  · rw [if_neg (fun q => h q.2), if_neg h]
section STP
variable {L R : Nat} {a : Nat → Nat → Nat} {t : Nat × Nat × Nat}
theorem M_stop_loop {k p d f e : Int} (hk : 0 ≤ k ∧ k < 12) : ∀ (n : Nat) (x : Int) (w : Nat → Nat → Int) (y : AV), -1 ≤ x → x + n = 6 → w 1558 8 = k → ∃ w', a_X 188 78 [a_r 1557, a_i k, a_i p, a_i d, a_i f, a_i e, a_i x, y] [] (K0 L, w, G a, t) = some (.inl none, (K0 L, w', G a, t)) ∧ (∀ q, q ≠ 1558 → w' q = w q) ∧ w' 1558 8 = k + 1 ∧ (∀ j : Nat, j < 16 → j ≠ 8 → w' 1558 j = w 1558 j) ∧ (∀ j : Nat, 436 ≤ j → w' 1558 j = w 1558 j) ∧
    ∀ l j z, -1 ≤ l → l ≤ 5 → 0 ≤ j → j < 12 → 0 ≤ z → z < 5 → mOf (w' 1558) l j z = if x ≤ l ∧ j = k ∧ z < 4 then vf4 p d f e z else mOf (w 1558) l j z := by
  intro n
  induction n with
  | zero =>
    intro x w y x0 hx h8
    refine ⟨upm w 1558 8 (k + 1), ?_, fun q hq => upm_rf hq, upm_eq, fun j j0 j1 => upm_i j1, fun j j0 => upm_i (by omega), fun l j z l0 l1 j0 j1 z0 z1 => ?_⟩
    · rw [B_X11_stopLine_78]
      simp (disch := first | assumption | omega) only [B_X11_stopLine_0, B_X11_stopLine_24, B_X11_stopLine_28, B_X11_stopLine_35, B_X11_stopLine_43, B_X11_stopLine_52, B_X11_stopLine_65, B_X11_stopLine_91, Option.bind_some, back_v, Option.toList_some, Option.toList_none, List.cons_append, List.nil_append, Nat.reduceAdd, Int.reduceToNat, Int.reduceNeg, upm_eq, upm_r, upm_i, if_pos, if_neg, ite_self, true_or, or_true, true_and, and_true, false_or, or_false, false_and, and_false, wr_id, i10, i01, upr_f, upr_eq, thr58, upm_upr, upr_upr, lc_lt, lc_gt, lc_ge, lc_le, afit1, afit0, afitI, bifit, not_true_eq_false, not_false_eq_true, if_true, if_false, Bool.false_eq_true, reduceCtorEq, k1557, k1558, g1557_2, h8]
    · rw [if_neg (by omega), mOf, upm_i (by omega)]; rfl
  | succ n ih =>
    intro x w y x0 hx h8
    have hsl := M_slotOf (u := w) (g := G a) (t := t) (k := K0 L) (x := x) (y := k) ⟨x0, by omega⟩ hk
    obtain ⟨w', e0, e1, e2, e3, e4, e5⟩ := ih (x + 1) (upm (upm (upm (upm w 1558 (16 + 60 * (x + 1) + 5 * k + 0).toNat p) 1558 (16 + 60 * (x + 1) + 5 * k + 1).toNat d) 1558 (16 + 60 * (x + 1) + 5 * k + 2).toNat f) 1558 (16 + 60 * (x + 1) + 5 * k + 3).toNat e) (a_i (16 + 60 * (x + 1) + 5 * k)) (by omega) (by omega) (by rw [upm_i (by omega), upm_i (by omega), upm_i (by omega), upm_i (by omega)]; exact h8)
    refine ⟨w', ?_, fun q hq => ?_, e2, fun j j0 j1 => ?_, fun j j0 => ?_, fun l j z l0 l1 j0 j1 z0 z1 => ?_⟩
    · rw [← e0]
      rw [B_X11_stopLine_78]
      simp (disch := first | assumption | omega) only [B_X11_stopLine_0, B_X11_stopLine_24, B_X11_stopLine_28, B_X11_stopLine_35, B_X11_stopLine_43, B_X11_stopLine_52, B_X11_stopLine_65, B_X11_stopLine_91, Option.bind_some, back_v, Option.toList_some, Option.toList_none, List.cons_append, List.nil_append, Nat.reduceAdd, Int.reduceToNat, Int.reduceNeg, upm_eq, upm_r, upm_i, if_pos, if_neg, ite_self, true_or, or_true, true_and, and_true, false_or, or_false, false_and, and_false, wr_id, i10, i01, upr_f, upr_eq, thr58, upm_upr, upr_upr, lc_lt, lc_gt, lc_ge, lc_le, afit1, afit0, afitI, bifit, not_true_eq_false, not_false_eq_true, if_true, if_false, Bool.false_eq_true, reduceCtorEq, k1557, k1558, g1557_2, hsl]
    · rw [e1 q hq, upm_rf hq, upm_rf hq, upm_rf hq, upm_rf hq]
    · rw [e3 j j0 j1, upm_i (by omega), upm_i (by omega), upm_i (by omega), upm_i (by omega)]
    · rw [e4 j j0, upm_i (by omega), upm_i (by omega), upm_i (by omega), upm_i (by omega)]
    · rw [e5 l j z l0 l1 j0 j1 z0 z1]
      by_cases hl : x + 1 ≤ l
      · by_cases hj : j = k ∧ z < 4
        · rw [if_pos ⟨hl, hj⟩, if_pos ⟨by omega, hj⟩]
        · rw [if_neg (fun q => hj q.2), if_neg (fun q => hj q.2), mOf, upm_i (by omega), upm_i (by omega), upm_i (by omega), upm_i (by omega)]; rfl
      · rw [if_neg (fun q => hl q.1)]
        by_cases hx2 : x ≤ l ∧ j = k ∧ z < 4
        · rw [if_pos hx2]
          obtain ⟨c1, c2, c3⟩ := hx2
          have c4 : l = x := by omega
          subst c4
          subst c2
          have : z = 0 ∨ z = 1 ∨ z = 2 ∨ z = 3 := by omega
          unfold mOf
          rcases this with rfl | rfl | rfl | rfl
          · rw [upm_i (by omega), upm_i (by omega), upm_i (by omega), upm_eq]; rfl
          · rw [upm_i (by omega), upm_i (by omega), upm_eq]; rfl
          · rw [upm_i (by omega), upm_eq]; rfl
          · rw [upm_eq]; rfl
        · rw [if_neg hx2, mOf, upm_i (by omega), upm_i (by omega), upm_i (by omega), upm_i (by omega)]; rfl
/-- both parsers at the same place with the same things laid down -/
def PP (R : Nat) (v w : Nat → Nat → Int) (N : Int) (B : Nat → Int) (n : Int) : Prop := PT v w N B ∧ pdR (vw v R) (w 1558) n ∧ v 19 10 = w 1558 8 ∧ w 1557 15 = 0 ∧ strOK v ∧ strOK w
/-- both sides say the same error -/
def PF (v w : Nat → Nat → Int) : Prop := (w 1557 15 = v 19 2 ∧ hi0 (w 1558)) ∧ w 1557 16 = v 19 3 ∧ w 1557 15 ≠ 0
theorem PF_up {v w : Nat → Nat → Int} {j : Nat} {x : Int} (hj : j < 3280) (F : PF v w) : PF v (upm w 1558 j x) := by
  unfold PF at *
  rw [upm_r (by decide), upm_r (by decide)]
  exact ⟨⟨F.1.1, fun i hi => by rw [upm_i (by omega)]; exact F.1.2 i hi⟩, F.2⟩
def cP (R : Nat) (v v' : Nat → Nat → Int) : Prop := (∀ q, q ≠ 19 → (q < R ∨ R + 127 ≤ q) → v' q = v q) ∧ ∀ j, j ≠ 2 → j ≠ 3 → j ≠ 5 → j ≠ 6 → j ≠ 7 → j ≠ 8 → j ≠ 9 → j ≠ 10 → v' 19 j = v 19 j
def mP (w w' : Nat → Nat → Int) : Prop := (∀ q, q ≠ 1557 → q ≠ 1558 → w' q = w q) ∧ ∀ j, j ≠ 11 → j ≠ 12 → j ≠ 13 → j ≠ 14 → j ≠ 15 → j ≠ 16 → w' 1557 j = w 1557 j
theorem cP.refl {u : Nat → Nat → Int} : cP R u u := ⟨fun _ _ _ => rfl, fun _ _ _ _ _ _ _ _ _ => rfl⟩
theorem cP.trans {u v w : Nat → Nat → Int} (h : cP R u v) (h2 : cP R v w) : cP R u w := ⟨fun q hq hr => (h2.1 q hq hr).trans (h.1 q hq hr), fun j a b c d e f g i => (h2.2 j a b c d e f g i).trans (h.2 j a b c d e f g i)⟩
theorem mP.refl {u : Nat → Nat → Int} : mP u u := ⟨fun _ _ _ => rfl, fun _ _ _ _ _ _ _ => rfl⟩
theorem mP.trans {u v w : Nat → Nat → Int} (h : mP u v) (h2 : mP v w) : mP u w := ⟨fun q hq hr => (h2.1 q hq hr).trans (h.1 q hq hr), fun j a b c d e f => (h2.2 j a b c d e f).trans (h.2 j a b c d e f)⟩
theorem cTk2.cP {v v' : Nat → Nat → Int} (h : cTk2 v v') : cP R v v' := ⟨fun q hq _ => h.1 q hq, fun j a b c d e f g _ => h.2 j a b c d e f g⟩
theorem mTk2.mP {w w' : Nat → Nat → Int} (h : mTk2 w w') : mP w w' := ⟨fun q hq _ => h.1 q hq, h.2⟩
theorem strOK_congr {v v' : Nat → Nat → Int} (h : ∀ q, 1 ≤ q → q ≤ 16 → v' q = v q) (hs : strOK v) : strOK v' := by
  intro i hi
  rw [h (2 * i + 1) (by omega) (by omega), h (2 * i + 2) (by omega) (by omega)]
  exact hs i hi
theorem vw_congr {v v' : Nat → Nat → Int} (h : ∀ c, c < 127 → v' (R + c) = v (R + c)) : vw v' R = vw v R := by
  funext c j; unfold vw; split
  · rw [h c ‹_›]
  · rfl
theorem PP_tok {v w v' w' : Nat → Nat → Int} {N n : Int} {B : Nat → Int} (hR : isRad R) (h : PP R v w N B n) (hv : cTk2 v v') (hw : mTk2 w w') (hp : PT v' w' N B) (he : w' 1557 15 = 0) : PP R v' w' N B n := by
  obtain ⟨h1, h2, h3, h4, h5, h6⟩ := h
  have hr := isRad_lt hR
  refine ⟨hp, ?_, ?_, he, strOK_congr (fun q a b => hv.1 q (by omega)) h5, strOK_congr (fun q a b => hw.1 q (by omega)) h6⟩
  · rw [hw.1 1558 (by decide), vw_congr (fun c hc => hv.1 _ (by omega))]; exact h2
  · rw [hw.1 1558 (by decide), hv.2 10 (by decide) (by decide) (by decide) (by decide) (by decide) (by decide) (by decide)]; exact h3
theorem PT_keep {v w v' w' : Nat → Nat → Int} {N : Int} {B : Nat → Int} (h : PT v w N B) (h1 : ∀ j, 2 ≤ j → j < 9 → v' 19 j = v 19 j) (h2 : v' 20 = v 20) (h3 : ∀ j, 10 ≤ j → j < 15 → w' 1557 j = w 1557 j) (h4 : w' 1561 = w 1561) : PT v' w' N B := by
  obtain ⟨⟨a1, a2, a3, a4, a5, a6, a7, az2, az3⟩, b1, b2, b3, b4⟩ := h
  refine ⟨⟨?_, ?_, ?_, ?_, a5, ?_, ?_, ?_, ?_⟩, ?_, ?_, ?_, ?_⟩
  · rw [h1 4 (by decide) (by decide)]; exact a1
  · rw [h2]; exact a2
  · rw [h3 10 (by decide) (by decide)]; exact a3
  · rw [h4]; exact a4
  · rw [h1 5 (by decide) (by decide)]; exact a6
  · rw [h1 5 (by decide) (by decide), h3 11 (by decide) (by decide)]; exact a7
  · rw [h1 2 (by decide) (by decide)]; exact az2
  · rw [h1 3 (by decide) (by decide)]; exact az3
  · rw [h1 5 (by decide) (by decide), h1 7 (by decide) (by decide)]; exact b1
  · rw [h1 7 (by decide) (by decide), h3 12 (by decide) (by decide)]; exact b2
  · rw [h1 6 (by decide) (by decide), h3 13 (by decide) (by decide)]; exact b3
  · rw [h1 6 (by decide) (by decide), h1 8 (by decide) (by decide), h3 14 (by decide) (by decide)]; exact b4
theorem nextBoth {v w : Nat → Nat → Int} {N n : Int} {B : Nat → Int} (hR : isRad R) (h : PP R v w N B n) : ∃ v' w', a_m 64 [a_r 19] (K0 L, v, G a, t) = some (.inl none, (K0 L, v', G a, t)) ∧ a_m 182 [a_r 1557] (K0 L, w, G a, t) = some (.inl none, (K0 L, w', G a, t)) ∧ a_m 185 [a_r 1557] (K0 L, w, G a, t) = some (.inl none, (K0 L, w', G a, t)) ∧ cP R v v' ∧ mP w w' ∧ PP R v' w' N B n ∧ v 19 5 ≤ v' 19 5 ∧ (v' 19 6 ≠ 0 → v 19 5 < v' 19 5) ∧ (∀ q, q ≠ 19 → v' q = v q) ∧ w' 1558 = w 1558 := by
  obtain ⟨v', w', c0, m0, c1, m1, p1, p2, p3⟩ := PT_next (L := L) (a := a) (t := t) h.1.1
  have he := h.2.2.2.1
  have e15 : w' 1557 15 = 0 := by rw [m1.2 15 (by decide) (by decide) (by decide) (by decide)]; exact he
  refine ⟨v', w', c0, m0, ?_, c1.two.cP, m1.two.mP, PP_tok hR h c1.two m1.two p1 e15, p2, p3, c1.1, m1.1 _ (by decide)⟩
  simp (disch := first | assumption | omega) only [E_X11_goesOn, B_X11_goesOn_0, B_X11_goesOn_11, Option.bind_some, back_v, Option.toList_some, Option.toList_none, List.cons_append, List.nil_append, Nat.reduceAdd, Int.reduceToNat, Int.reduceNeg, upm_eq, upm_r, upm_i, if_pos, if_neg, ite_self, true_or, or_true, true_and, and_true, false_or, or_false, false_and, and_false, wr_id, i10, i01, upr_f, upr_eq, thr58, upm_upr, upr_upr, lc_lt, lc_gt, lc_ge, lc_le, afit1, afit0, afitI, bifit, not_true_eq_false, not_false_eq_true, if_true, if_false, Bool.false_eq_true, reduceCtorEq, k1557, k1558, g1557_2, he, m0]
theorem numBoth {v w : Nat → Nat → Int} {N n lo hi : Int} {B : Nat → Int} (hR : isRad R) (h : PP R v w N B n) : ∃ v' w', cP R v v' ∧ mP w w' ∧
    ((∃ x, lo ≤ x ∧ x ≤ hi ∧ a_m 62 [a_r 19, a_i lo, a_i hi] (K0 L, v, G a, t) = some (.inl (some (a_i (1))), (K0 L, v', G a, t)) ∧ a_m 187 [a_r 1557, a_i lo, a_i hi] (K0 L, w, G a, t) = some (.inl (some (a_i (x))), (K0 L, w', G a, t)) ∧ v' 19 9 = x ∧ PP R v' w' N B n ∧ v 19 5 ≤ v' 19 5 ∧ (∀ q, q ≠ 19 → v' q = v q) ∧ w' 1558 = w 1558) ∨
     (a_m 62 [a_r 19, a_i lo, a_i hi] (K0 L, v, G a, t) = some (.inl (some (a_i (0))), (K0 L, v', G a, t)) ∧ a_m 187 [a_r 1557, a_i lo, a_i hi] (K0 L, w, G a, t) = some (.inl (some (a_i (lo))), (K0 L, w', G a, t)) ∧ PF v' w' ∧ w' 1558 = w 1558)) := by
  obtain ⟨v', w', c1, m1, hh⟩ := takeNum (L := L) (a := a) (t := t) (lo := lo) (hi := hi) h.1 h.2.2.2.1
  refine ⟨v', w', c1.cP, m1.mP, ?_⟩
  rcases hh with ⟨x, x0, x1, g1, g2, g3, g4, g5, g6⟩ | hh
  · exact .inl ⟨x, x0, x1, g1, g2, g3, PP_tok hR h c1 m1 g4 g5, g6, c1.1, m1.1 _ (by decide)⟩
  · exact .inr ⟨hh.1, hh.2.1, ⟨⟨hh.2.2.1, by rw [m1.1 _ (by decide)]; exact fun j hj => h.2.1.1.2.2.2.2.2.2.2.2.2.2.2 j (by omega)⟩, hh.2.2.2⟩, m1.1 _ (by decide)⟩
theorem M_failsIf1 {w : Nat → Nat → Int} {c : Int} (he : w 1557 15 = 0) : a_m 184 [a_r 1557, a_i 1, a_i c] (K0 L, w, G a, t) = some (.inl none, (K0 L, upm (upm w 1557 15 c) 1557 16 (w 1557 12), G a, t)) := by
  simp (disch := first | assumption | omega) only [E_X11_failsIf, B_X11_failsIf_0, B_X11_failsIf_9, Option.bind_some, back_v, Option.toList_some, Option.toList_none, List.cons_append, List.nil_append, Nat.reduceAdd, Int.reduceToNat, Int.reduceNeg, upm_eq, upm_r, upm_i, if_pos, if_neg, ite_self, true_or, or_true, true_and, and_true, false_or, or_false, false_and, and_false, wr_id, i10, i01, upr_f, upr_eq, thr58, upm_upr, upr_upr, lc_lt, lc_gt, lc_ge, lc_le, afit1, afit0, afitI, bifit, not_true_eq_false, not_false_eq_true, if_true, if_false, Bool.false_eq_true, reduceCtorEq, k1557, k1558, g1557_2, M_fails he]
theorem failBoth {v w : Nat → Nat → Int} {N n c : Int} {B : Nat → Int} (hc : c ≠ 0) (h : PP R v w N B n) : ∃ v' w', cP R v v' ∧ mP w w' ∧ PF v' w' ∧ a_m 59 [a_r 19, a_i c] (K0 L, v, G a, t) = some (.inl (some (a_i (0))), (K0 L, v', G a, t)) ∧ a_m 183 [a_r 1557, a_i c] (K0 L, w, G a, t) = some (.inl none, (K0 L, w', G a, t)) ∧ a_m 184 [a_r 1557, a_i 1, a_i c] (K0 L, w, G a, t) = some (.inl none, (K0 L, w', G a, t)) ∧ w' 1558 = w 1558 :=
  ⟨_, _, ((cTk2_up (.inl rfl)).trans (cTk2_up (.inr (.inl rfl)))).cP, ((mTk2_up (.inl rfl)).trans (mTk2_up (.inr rfl))).mP, ⟨⟨(PF_fail hc h.1).1, by rw [upm_rf (by decide), upm_rf (by decide)]; exact fun j hj => h.2.1.1.2.2.2.2.2.2.2.2.2.2.2 j (by omega)⟩, (PF_fail hc h.1).2⟩, C_fail, M_fails h.2.2.2.1, M_failsIf1 h.2.2.2.1, by rw [upm_rf (by decide), upm_rf (by decide)]⟩
theorem stopBoth {v w : Nat → Nat → Int} {N n : Int} {B : Nat → Int} (hR : isRad R) (h : PP R v w N B n) : ∃ v' w', cP R v v' ∧ mP w w' ∧
    ((a_m 56 [a_r 19, a_r R] (K0 L, v, G a, t) = some (.inl (some (a_i (1))), (K0 L, v', G a, t)) ∧ a_m 188 [a_r 1557] (K0 L, w, G a, t) = some (.inl none, (K0 L, w', G a, t)) ∧ PP R v' w' N B n ∧ v 19 5 ≤ v' 19 5 ∧ w' 1558 3 = w 1558 3) ∨
     (a_m 56 [a_r 19, a_r R] (K0 L, v, G a, t) = some (.inl (some (a_i (0))), (K0 L, v', G a, t)) ∧ a_m 188 [a_r 1557] (K0 L, w, G a, t) = some (.inl none, (K0 L, w', G a, t)) ∧ PF v' w')) := by
  have hr := isRad_lt hR
  have h8 := h.2.1.1.2.2.2.2.2.2.2.2.2.1
  have e10 := h.2.2.1
  generalize hk : w 1558 8 = k at *
  by_cases h12 : k < 12
  · obtain ⟨v1, w1, c0, _, m0, cp1, mp1, P1, l1, _, o1, s1⟩ := nextBoth (L := L) (a := a) (t := t) hR h
    have f0 := M_failsIf0 (L := L) (a := a) (t := t) (w := w) (c := 3)
    have k1 : k ≠ 12 := by omega
    obtain ⟨v2, w2, cp2, mp2, ⟨x1, x10, x11, a1, b1, y1, P2, l2, o2, s2⟩ | ⟨a1, b1, F, _⟩⟩ := numBoth (L := L) (a := a) (t := t) (lo := 0) (hi := 29) hR P1
    · obtain ⟨v3, w3, cp3, mp3, ⟨x2, x20, x21, a2, b2, y2, P3, l3, o3, s3⟩ | ⟨a2, b2, F, _⟩⟩ := numBoth (L := L) (a := a) (t := t) (lo := 0) (hi := 6) hR P2
      · obtain ⟨v4, w4, cp4, mp4, ⟨x3, x30, x31, a3, b3, y3, P4, l4, o4, s4⟩ | ⟨a3, b3, F, _⟩⟩ := numBoth (L := L) (a := a) (t := t) (lo := 0) (hi := 1438) hR P3
        · obtain ⟨v5, w5, cp5, mp5, ⟨x4, x40, x41, a4, b4, y4, P5, l5, o5, s5⟩ | ⟨a4, b4, F, _⟩⟩ := numBoth (L := L) (a := a) (t := t) (lo := x3 + 1) (hi := 1439) hR P4
          · have hs := C_setRow (L := L) (a := a) (t := t) (u := v5) (k := k) (p := x1) (d := x2) (f := x3) (e := x4) hR ⟨h8.1, by omega⟩
            have e15 := P5.2.2.2.1
            have s8 : w5 1558 8 = k := by rw [s5, s4, s3, s2, s1]; exact hk
            have z10 : v5 19 10 = k := P5.2.2.1.trans s8
            obtain ⟨w6, q0, q1, q2, q3, q4, q5⟩ := M_stop_loop (L := L) (a := a) (t := t) (p := x1) (d := x2) (f := x3) (e := x4) ⟨h8.1, h12⟩ 7 (-1) w5 (a_x false) (by decide) (by decide) s8
            have o6 : ∀ q, q ≠ 19 → q ≠ R + 2 → q ≠ R + 3 → q ≠ R + 4 → q ≠ R + 5 → upm (upm (upm (upm (upm v5 (R + 2) k.toNat x1) (R + 3) k.toNat x2) (R + 4) k.toNat x3) (R + 5) k.toNat x4) 19 10 (k + 1) q = v5 q := fun q r1 r2 r3 r4 r5 => by rw [upm_rf r1, upm_rf r5, upm_rf r4, upm_rf r3, upm_rf r2]
            have o7 : ∀ j, j ≠ 10 → upm (upm (upm (upm (upm v5 (R + 2) k.toNat x1) (R + 3) k.toNat x2) (R + 4) k.toNat x3) (R + 5) k.toNat x4) 19 10 (k + 1) 19 j = v5 19 j := fun j hj => by rw [upm_i hj, upm_r (by omega), upm_r (by omega), upm_r (by omega), upm_r (by omega)]
            refine ⟨upm (upm (upm (upm (upm v5 (R + 2) k.toNat x1) (R + 3) k.toNat x2) (R + 4) k.toNat x3) (R + 5) k.toNat x4) 19 10 (k + 1), w6, ?_, ?_, .inl ⟨?_, ?_, ?_, ?_, ?_⟩⟩
            · refine ((((cp1.trans cp2).trans cp3).trans cp4).trans cp5).trans ⟨fun q hq hq2 => o6 q hq (by omega) (by omega) (by omega) (by omega), fun j _ _ _ _ _ _ _ hj => o7 j hj⟩
            · exact ((((mp1.trans mp2).trans mp3).trans mp4).trans mp5).trans ⟨fun q _ hq => q1 q hq, fun j _ _ _ _ _ _ => by rw [q1 1557 (by decide)]⟩
            · simp (disch := first | assumption | omega) only [k19, k20, g19_0, kR0, kR9, kR10, kR11, kR102, gR0_0, gR0_1, gR0_2, gR0_3, gR10_0, gR11, gR102, kR1, kR2, kR3, kR4, kR5, kR6, kR7, kR8, gR1_0, gR1_1, gR1_2, gR1_3, gR1_4, gR1_5, gR1_6, E_X5_parseStop, B_X5_parseStop_0, B_X5_parseStop_19, B_X5_parseStop_14, B_X5_parseStop_26, B_X5_parseStop_43, B_X5_parseStop_61, B_X5_parseStop_83, B_X5_parseStop_107, Option.bind_some, back_v, Option.toList_some, Option.toList_none, List.cons_append, List.nil_append, Nat.reduceAdd, Int.reduceToNat, Int.reduceNeg, upm_eq, upm_r, upm_i, if_pos, if_neg, ite_self, true_or, or_true, true_and, and_true, false_or, or_false, false_and, and_false, wr_id, i10, i01, upr_f, upr_eq, thr58, upm_upr, upr_upr, lc_lt, lc_gt, lc_ge, lc_le, afit1, afit0, afitI, bifit, not_true_eq_false, not_false_eq_true, if_true, if_false, Bool.false_eq_true, reduceCtorEq, k1557, k1558, g1557_2, e10, c0, a1, y1, a2, y2, a3, y3, a4, y4, hs, z10]
            · simp (disch := first | assumption | omega) only [E_X11_stopLine, B_X11_stopLine_0, B_X11_stopLine_24, B_X11_stopLine_28, B_X11_stopLine_35, B_X11_stopLine_43, B_X11_stopLine_52, B_X11_stopLine_65, B_X11_stopLine_91, Option.bind_some, back_v, Option.toList_some, Option.toList_none, List.cons_append, List.nil_append, Nat.reduceAdd, Int.reduceToNat, Int.reduceNeg, upm_eq, upm_r, upm_i, if_pos, if_neg, ite_self, true_or, or_true, true_and, and_true, false_or, or_false, false_and, and_false, wr_id, i10, i01, upr_f, upr_eq, thr58, upm_upr, upr_upr, lc_lt, lc_gt, lc_ge, lc_le, afit1, afit0, afitI, bifit, not_true_eq_false, not_false_eq_true, if_true, if_false, Bool.false_eq_true, reduceCtorEq, k1557, k1558, g1557_2, hk, f0, m0, b1, b2, b3, b4, e15, q0]
            · refine ⟨PT_keep P5.1 (fun j j0 j1 => o7 j (by omega)) (o6 20 (by decide) (by omega) (by omega) (by omega) (by omega)) (fun j _ _ => by rw [q1 1557 (by decide)]) (q1 1561 (by decide)), ?_, ?_, ?_, strOK_congr (fun q a b => o6 q (by omega) (by omega) (by omega) (by omega) (by omega)) P5.2.2.2.2.1, strOK_congr (fun q a b => q1 q (by omega)) P5.2.2.2.2.2⟩
              · refine pdR_stop (k := k) (f := vf4 x1 x2 x3 x4) P5.2.1 ⟨h8.1, h12⟩ (.inr ⟨⟨x10, x11⟩, ⟨x20, x21⟩, x30, ?_, x41⟩) (fun q r2 r3 r4 r5 => ?_) (fun j z j0 j1 z0 z1 => ?_) (by rw [q2, s8]) (by rw [s8]; exact h12) q3 q4 (fun l j z l0 l1 j0 j1 z0 z1 => ?_)
                · show x3 < x4
                  omega
                · funext i
                  unfold vw
                  split
                  · rw [o6 _ (by omega) (by omega) (by omega) (by omega) (by omega)]
                  · rfl
                · unfold vW
                  rw [vw_at (by decide), vw_at (by decide), vw_at (by decide), vw_at (by decide), vw_at (by decide), vw_at (by decide), vw_at (by decide), vw_at (by decide)]
                  have t2 : ∀ J, upm (upm (upm (upm (upm v5 (R + 2) k.toNat x1) (R + 3) k.toNat x2) (R + 4) k.toNat x3) (R + 5) k.toNat x4) 19 10 (k + 1) (R + 2) J = if J = k.toNat then x1 else v5 (R + 2) J := fun J => by rw [upm_r (by omega), upm_r (by omega), upm_r (by omega), upm_r (by omega), upm_ite]
                  have t3 : ∀ J, upm (upm (upm (upm (upm v5 (R + 2) k.toNat x1) (R + 3) k.toNat x2) (R + 4) k.toNat x3) (R + 5) k.toNat x4) 19 10 (k + 1) (R + 3) J = if J = k.toNat then x2 else v5 (R + 3) J := fun J => by rw [upm_r (by omega), upm_r (by omega), upm_r (by omega), upm_ite, upm_r (by omega)]
                  have t4 : ∀ J, upm (upm (upm (upm (upm v5 (R + 2) k.toNat x1) (R + 3) k.toNat x2) (R + 4) k.toNat x3) (R + 5) k.toNat x4) 19 10 (k + 1) (R + 4) J = if J = k.toNat then x3 else v5 (R + 4) J := fun J => by rw [upm_r (by omega), upm_r (by omega), upm_ite, upm_r (by omega), upm_r (by omega)]
                  have t5 : ∀ J, upm (upm (upm (upm (upm v5 (R + 2) k.toNat x1) (R + 3) k.toNat x2) (R + 4) k.toNat x3) (R + 5) k.toNat x4) 19 10 (k + 1) (R + 5) J = if J = k.toNat then x4 else v5 (R + 5) J := fun J => by rw [upm_r (by omega), upm_ite, upm_r (by omega), upm_r (by omega), upm_r (by omega)]
                  rw [t2, t3, t4, t5]
                  by_cases hj : j = k
                  · subst hj
                    rw [if_pos rfl, if_pos rfl, if_pos rfl, if_pos rfl, if_pos rfl]; rfl
                  · have hj2 : j.toNat ≠ k.toNat := by omega
                    rw [if_neg hj2, if_neg hj2, if_neg hj2, if_neg hj2, if_neg hj]
                · rw [q5 l j z l0 l1 j0 j1 z0 z1]
                  by_cases hj : j = k ∧ z < 4
                  · rw [if_pos ⟨l0, hj⟩, if_pos hj]
                  · rw [if_neg (fun q => hj q.2), if_neg hj]
              · rw [upm_eq, q2]
              · rw [q1 1557 (by decide)]; exact e15
            · rw [o7 5 (by decide)]; omega
            · rw [q3 3 (by decide) (by decide), s5, s4, s3, s2, s1]
          · have hb := fun lo hi => M_takes_bad (L := L) (a := a) (t := t) (lo := lo) (hi := hi) F.2.2
            have e15 := F.2.2
            refine ⟨v5, w5, (((cp1.trans cp2).trans cp3).trans cp4).trans cp5, (((mp1.trans mp2).trans mp3).trans mp4).trans mp5, .inr ⟨?_, ?_, F⟩⟩
            · simp (disch := first | assumption | omega) only [k19, k20, g19_0, kR0, kR9, kR10, kR11, kR102, gR0_0, gR0_1, gR0_2, gR0_3, gR10_0, gR11, gR102, E_X5_parseStop, B_X5_parseStop_0, B_X5_parseStop_19, B_X5_parseStop_14, B_X5_parseStop_26, B_X5_parseStop_43, B_X5_parseStop_61, B_X5_parseStop_83, B_X5_parseStop_107, Option.bind_some, back_v, Option.toList_some, Option.toList_none, List.cons_append, List.nil_append, Nat.reduceAdd, Int.reduceToNat, Int.reduceNeg, upm_eq, upm_r, upm_i, if_pos, if_neg, ite_self, true_or, or_true, true_and, and_true, false_or, or_false, false_and, and_false, wr_id, i10, i01, upr_f, upr_eq, thr58, upm_upr, upr_upr, lc_lt, lc_gt, lc_ge, lc_le, afit1, afit0, afitI, bifit, not_true_eq_false, not_false_eq_true, if_true, if_false, Bool.false_eq_true, reduceCtorEq, k1557, k1558, g1557_2, e10, c0, a1, y1, a2, y2, a3, y3, a4]
            · simp (disch := first | assumption | omega) only [E_X11_stopLine, B_X11_stopLine_0, B_X11_stopLine_24, B_X11_stopLine_28, B_X11_stopLine_35, B_X11_stopLine_43, B_X11_stopLine_52, B_X11_stopLine_65, B_X11_stopLine_91, Option.bind_some, back_v, Option.toList_some, Option.toList_none, List.cons_append, List.nil_append, Nat.reduceAdd, Int.reduceToNat, Int.reduceNeg, upm_eq, upm_r, upm_i, if_pos, if_neg, ite_self, true_or, or_true, true_and, and_true, false_or, or_false, false_and, and_false, wr_id, i10, i01, upr_f, upr_eq, thr58, upm_upr, upr_upr, lc_lt, lc_gt, lc_ge, lc_le, afit1, afit0, afitI, bifit, not_true_eq_false, not_false_eq_true, if_true, if_false, Bool.false_eq_true, reduceCtorEq, k1557, k1558, g1557_2, hk, f0, m0, b1, b2, b3, b4, e15]
        · have hb := fun lo hi => M_takes_bad (L := L) (a := a) (t := t) (lo := lo) (hi := hi) F.2.2
          have e15 := F.2.2
          refine ⟨v4, w4, ((cp1.trans cp2).trans cp3).trans cp4, ((mp1.trans mp2).trans mp3).trans mp4, .inr ⟨?_, ?_, F⟩⟩
          · simp (disch := first | assumption | omega) only [k19, k20, g19_0, kR0, kR9, kR10, kR11, kR102, gR0_0, gR0_1, gR0_2, gR0_3, gR10_0, gR11, gR102, E_X5_parseStop, B_X5_parseStop_0, B_X5_parseStop_19, B_X5_parseStop_14, B_X5_parseStop_26, B_X5_parseStop_43, B_X5_parseStop_61, B_X5_parseStop_83, B_X5_parseStop_107, Option.bind_some, back_v, Option.toList_some, Option.toList_none, List.cons_append, List.nil_append, Nat.reduceAdd, Int.reduceToNat, Int.reduceNeg, upm_eq, upm_r, upm_i, if_pos, if_neg, ite_self, true_or, or_true, true_and, and_true, false_or, or_false, false_and, and_false, wr_id, i10, i01, upr_f, upr_eq, thr58, upm_upr, upr_upr, lc_lt, lc_gt, lc_ge, lc_le, afit1, afit0, afitI, bifit, not_true_eq_false, not_false_eq_true, if_true, if_false, Bool.false_eq_true, reduceCtorEq, k1557, k1558, g1557_2, e10, c0, a1, y1, a2, y2, a3]
          · simp (disch := first | assumption | omega) only [E_X11_stopLine, B_X11_stopLine_0, B_X11_stopLine_24, B_X11_stopLine_28, B_X11_stopLine_35, B_X11_stopLine_43, B_X11_stopLine_52, B_X11_stopLine_65, B_X11_stopLine_91, Option.bind_some, back_v, Option.toList_some, Option.toList_none, List.cons_append, List.nil_append, Nat.reduceAdd, Int.reduceToNat, Int.reduceNeg, upm_eq, upm_r, upm_i, if_pos, if_neg, ite_self, true_or, or_true, true_and, and_true, false_or, or_false, false_and, and_false, wr_id, i10, i01, upr_f, upr_eq, thr58, upm_upr, upr_upr, lc_lt, lc_gt, lc_ge, lc_le, afit1, afit0, afitI, bifit, not_true_eq_false, not_false_eq_true, if_true, if_false, Bool.false_eq_true, reduceCtorEq, k1557, k1558, g1557_2, hk, f0, m0, b1, b2, b3, hb, e15]
      · have hb := fun lo hi => M_takes_bad (L := L) (a := a) (t := t) (lo := lo) (hi := hi) F.2.2
        have e15 := F.2.2
        refine ⟨v3, w3, (cp1.trans cp2).trans cp3, (mp1.trans mp2).trans mp3, .inr ⟨?_, ?_, F⟩⟩
        · simp (disch := first | assumption | omega) only [k19, k20, g19_0, kR0, kR9, kR10, kR11, kR102, gR0_0, gR0_1, gR0_2, gR0_3, gR10_0, gR11, gR102, E_X5_parseStop, B_X5_parseStop_0, B_X5_parseStop_19, B_X5_parseStop_14, B_X5_parseStop_26, B_X5_parseStop_43, B_X5_parseStop_61, B_X5_parseStop_83, B_X5_parseStop_107, Option.bind_some, back_v, Option.toList_some, Option.toList_none, List.cons_append, List.nil_append, Nat.reduceAdd, Int.reduceToNat, Int.reduceNeg, upm_eq, upm_r, upm_i, if_pos, if_neg, ite_self, true_or, or_true, true_and, and_true, false_or, or_false, false_and, and_false, wr_id, i10, i01, upr_f, upr_eq, thr58, upm_upr, upr_upr, lc_lt, lc_gt, lc_ge, lc_le, afit1, afit0, afitI, bifit, not_true_eq_false, not_false_eq_true, if_true, if_false, Bool.false_eq_true, reduceCtorEq, k1557, k1558, g1557_2, e10, c0, a1, y1, a2]
        · simp (disch := first | assumption | omega) only [E_X11_stopLine, B_X11_stopLine_0, B_X11_stopLine_24, B_X11_stopLine_28, B_X11_stopLine_35, B_X11_stopLine_43, B_X11_stopLine_52, B_X11_stopLine_65, B_X11_stopLine_91, Option.bind_some, back_v, Option.toList_some, Option.toList_none, List.cons_append, List.nil_append, Nat.reduceAdd, Int.reduceToNat, Int.reduceNeg, upm_eq, upm_r, upm_i, if_pos, if_neg, ite_self, true_or, or_true, true_and, and_true, false_or, or_false, false_and, and_false, wr_id, i10, i01, upr_f, upr_eq, thr58, upm_upr, upr_upr, lc_lt, lc_gt, lc_ge, lc_le, afit1, afit0, afitI, bifit, not_true_eq_false, not_false_eq_true, if_true, if_false, Bool.false_eq_true, reduceCtorEq, k1557, k1558, g1557_2, hk, f0, m0, b1, b2, hb, e15]
    · have hb := fun lo hi => M_takes_bad (L := L) (a := a) (t := t) (lo := lo) (hi := hi) F.2.2
      have e15 := F.2.2
      refine ⟨v2, w2, cp1.trans cp2, mp1.trans mp2, .inr ⟨?_, ?_, F⟩⟩
      · simp (disch := first | assumption | omega) only [k19, k20, g19_0, kR0, kR9, kR10, kR11, kR102, gR0_0, gR0_1, gR0_2, gR0_3, gR10_0, gR11, gR102, E_X5_parseStop, B_X5_parseStop_0, B_X5_parseStop_19, B_X5_parseStop_14, B_X5_parseStop_26, B_X5_parseStop_43, B_X5_parseStop_61, B_X5_parseStop_83, B_X5_parseStop_107, Option.bind_some, back_v, Option.toList_some, Option.toList_none, List.cons_append, List.nil_append, Nat.reduceAdd, Int.reduceToNat, Int.reduceNeg, upm_eq, upm_r, upm_i, if_pos, if_neg, ite_self, true_or, or_true, true_and, and_true, false_or, or_false, false_and, and_false, wr_id, i10, i01, upr_f, upr_eq, thr58, upm_upr, upr_upr, lc_lt, lc_gt, lc_ge, lc_le, afit1, afit0, afitI, bifit, not_true_eq_false, not_false_eq_true, if_true, if_false, Bool.false_eq_true, reduceCtorEq, k1557, k1558, g1557_2, e10, c0, a1]
      · simp (disch := first | assumption | omega) only [E_X11_stopLine, B_X11_stopLine_0, B_X11_stopLine_24, B_X11_stopLine_28, B_X11_stopLine_35, B_X11_stopLine_43, B_X11_stopLine_52, B_X11_stopLine_65, B_X11_stopLine_91, Option.bind_some, back_v, Option.toList_some, Option.toList_none, List.cons_append, List.nil_append, Nat.reduceAdd, Int.reduceToNat, Int.reduceNeg, upm_eq, upm_r, upm_i, if_pos, if_neg, ite_self, true_or, or_true, true_and, and_true, false_or, or_false, false_and, and_false, wr_id, i10, i01, upr_f, upr_eq, thr58, upm_upr, upr_upr, lc_lt, lc_gt, lc_ge, lc_le, afit1, afit0, afitI, bifit, not_true_eq_false, not_false_eq_true, if_true, if_false, Bool.false_eq_true, reduceCtorEq, k1557, k1558, g1557_2, hk, f0, m0, b1, hb, e15]
  · have k12 : k = 12 := by omega
    obtain ⟨v', w', cp, mp, F, g0, _, g2, _⟩ := failBoth (L := L) (a := a) (t := t) (c := 3) (by decide) h
    have hb := fun lo hi => M_takes_bad (L := L) (a := a) (t := t) (lo := lo) (hi := hi) F.2.2
    have hgo := M_goesOn_bad (L := L) (a := a) (t := t) F.2.2
    have e15 := F.2.2
    refine ⟨v', w', cp, mp, .inr ⟨?_, ?_, F⟩⟩
    · simp (disch := first | assumption | omega) only [k19, k20, g19_0, kR0, kR9, kR10, kR11, kR102, gR0_0, gR0_1, gR0_2, gR0_3, gR10_0, gR11, gR102, E_X5_parseStop, B_X5_parseStop_0, B_X5_parseStop_19, B_X5_parseStop_14, B_X5_parseStop_26, B_X5_parseStop_43, B_X5_parseStop_61, B_X5_parseStop_83, B_X5_parseStop_107, Option.bind_some, back_v, Option.toList_some, Option.toList_none, List.cons_append, List.nil_append, Nat.reduceAdd, Int.reduceToNat, Int.reduceNeg, upm_eq, upm_r, upm_i, if_pos, if_neg, ite_self, true_or, or_true, true_and, and_true, false_or, or_false, false_and, and_false, wr_id, i10, i01, upr_f, upr_eq, thr58, upm_upr, upr_upr, lc_lt, lc_gt, lc_ge, lc_le, afit1, afit0, afitI, bifit, not_true_eq_false, not_false_eq_true, if_true, if_false, Bool.false_eq_true, reduceCtorEq, k1557, k1558, g1557_2, e10, g0]
    · have nn : ¬ k ≠ 12 := by omega
      simp (disch := first | assumption | omega) only [E_X11_stopLine, B_X11_stopLine_0, B_X11_stopLine_24, B_X11_stopLine_28, B_X11_stopLine_35, B_X11_stopLine_43, B_X11_stopLine_52, B_X11_stopLine_65, B_X11_stopLine_91, Option.bind_some, back_v, Option.toList_some, Option.toList_none, List.cons_append, List.nil_append, Nat.reduceAdd, Int.reduceToNat, Int.reduceNeg, upm_eq, upm_r, upm_i, if_pos, if_neg, ite_self, true_or, or_true, true_and, and_true, false_or, or_false, false_and, and_false, wr_id, i10, i01, upr_f, upr_eq, thr58, upm_upr, upr_upr, lc_lt, lc_gt, lc_ge, lc_le, afit1, afit0, afitI, bifit, not_true_eq_false, not_false_eq_true, if_true, if_false, Bool.false_eq_true, reduceCtorEq, k1557, k1558, g1557_2, hk, g2, hgo, hb, e15]
end STP
