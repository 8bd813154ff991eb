/-! ===== the abstract machine against the machine: values, cells, worlds ===== -/
theorem wr_bmod (z : Int) : wr z = Int.bmod z (2 ^ 32) := by
  unfold wr Int.bmod
  have h1 := Int.emod_nonneg z (show (4294967296 : Int) ≠ 0 by decide)
  have h2 := Int.emod_lt_of_pos z (show (0 : Int) < 4294967296 by decide)
  show _ = (if z % 4294967296 < (4294967296 + 1) / 2 then z % 4294967296 else z % 4294967296 - 4294967296)
  split <;> omega
theorem wl_bmod (z : Int) : wl z = Int.bmod z (2 ^ 64) := by
  unfold wl Int.bmod
  have h1 := Int.emod_nonneg z (show (18446744073709551616 : Int) ≠ 0 by decide)
  have h2 := Int.emod_lt_of_pos z (show (0 : Int) < 18446744073709551616 by decide)
  show _ = (if z % 18446744073709551616 < (18446744073709551616 + 1) / 2 then z % 18446744073709551616 else z % 18446744073709551616 - 18446744073709551616)
  split <;> omega
theorem i3_add (x y : Int32) : (x + y).toInt = wr (x.toInt + y.toInt) := by rw [wr_bmod, Int32.toInt_add]
theorem i3_sub (x y : Int32) : (x - y).toInt = wr (x.toInt - y.toInt) := by rw [wr_bmod, Int32.toInt_sub]
theorem i3_mul (x y : Int32) : (x * y).toInt = wr (x.toInt * y.toInt) := by rw [wr_bmod, Int32.toInt_mul]
theorem i3_div (x y : Int32) : (x / y).toInt = wr (x.toInt.tdiv y.toInt) := by rw [wr_bmod, Int32.toInt_div]
theorem i3_lt (x : Int32) : x.toInt < 2147483648 := by have := x.toInt_lt; simpa using this
theorem i3_ge (x : Int32) : -2147483648 ≤ x.toInt := by have := x.le_toInt; simpa using this
theorem i3_of {z : Int} (h1 : -2147483648 ≤ z) (h2 : z < 2147483648) : (Int32.ofInt z).toInt = z := by
  rw [Int32.toInt_ofInt, ← wr_bmod]
  exact wr_id h1 h2
theorem i6_of {z : Int} (h1 : -9223372036854775808 ≤ z) (h2 : z < 9223372036854775808) : (Int64.ofInt z).toInt = z := by
  rw [Int64.toInt_ofInt, ← wl_bmod]
  unfold wl; omega
theorem i3_to (x : Int32) : Int32.ofInt x.toInt = x := Int32.ofInt_toInt x
theorem i6_add (x y : Int64) : (x + y).toInt = wl (x.toInt + y.toInt) := by rw [wl_bmod, Int64.toInt_add]
theorem i6_mul (x y : Int64) : (x * y).toInt = wl (x.toInt * y.toInt) := by rw [wl_bmod, Int64.toInt_mul]
theorem i3_rem (x y : Int32) (h : ¬ y = 0) : (x - x / y * y).toInt = x.toInt.tmod y.toInt := by
  rw [i3_sub, i3_mul, i3_div]
  have hy : y.toInt ≠ 0 := fun q => h (Int32.toInt_inj.mp (by rw [q]; rfl))
  have e := Int.tdiv_mul_add_tmod x.toInt y.toInt
  have hb : wr (x.toInt - wr (wr (x.toInt.tdiv y.toInt) * y.toInt)) = wr (x.toInt - x.toInt.tdiv y.toInt * y.toInt) := by
    simp only [wr_bmod]
    rw [Int.bmod_mul_bmod, Int.sub_bmod_bmod]
  rw [hb, show x.toInt - x.toInt.tdiv y.toInt * y.toInt = x.toInt.tmod y.toInt by omega]
  have h1 := Int.natAbs_tmod x.toInt y.toInt
  have h2 : x.toInt.natAbs % y.toInt.natAbs < y.toInt.natAbs := Nat.mod_lt _ (by omega)
  have h3 := i3_lt y
  have h4 := i3_ge y
  have h5 := i3_lt x
  have h6 := i3_ge x
  have h7 : x.toInt.natAbs % y.toInt.natAbs ≤ x.toInt.natAbs := Nat.mod_le _ _
  have h8 : (x.toInt.tmod y.toInt) < 2147483648 := by
    by_cases q : (x.toInt.tmod y.toInt) < 0
    · omega
    · omega
  refine wr_id ?_ h8
  omega
abbrev vwCl : List vw_C := [(RX0, TX0, 2), (RX1, TX1, 3), (RX2, TX2, 10), (RX3, TX3, 7), (RX4, TX4, 9), (RX5, TX5, 11), (RX6, TX6, 8), (RX7, TX7, 2), (RX8, TX8, 8), (RX10, TX10, 9), (RX11, TX11, 25)]
def k_TL : List u_T := [TX0, TX1, TX2, TX3, TX4, TX5, TX6, TX7, TX8, TX10, TX11]
def k_T (c : Nat) : u_T := k_TL.getD c TX0
def k_tyL : List (Nat → FieldType) := [tyX0, tyX1, tyX2, tyX3, tyX4, tyX5, tyX6, tyX7, tyX8, tyX10, tyX11]
def k_ty (c : Nat) : Nat → FieldType := k_tyL.getD c tyX0
def k_name (c : Nat) : String := ((vwCl.getD c (RX0, TX0, 0)).1 : String)
/-- the field j of a class of kind c holds a reference -/
def k_ref (c j : Nat) : Bool := match k_ty c j with
  | .int => false
  | .boolean => false
  | _ => true
def a_null (L : Nat → Nat) (q : Nat) : Value := if q = 0 then .null else .ref (L q)
def a_rl (L : Nat → Nat) (n : Nat) (a : AV) (v : Value) : Prop := match a with
  | .inl z => ∃ w : Int32, v = .int w ∧ w.toInt = z
  | .inr (.inl q) => q < n ∧ v = a_null L q
  | .inr (.inr (.inl z)) => ∃ w : Int64, v = .long w ∧ w.toInt = z
  | .inr (.inr (.inr (.inl z))) => v = .float z
  | .inr (.inr (.inr (.inr (.inl z)))) => v = .double z
  | .inr (.inr (.inr (.inr (.inr true)))) => ∃ r, v = va_rf r
  | .inr (.inr (.inr (.inr (.inr false)))) => True
def a_st (L : Nat → Nat) (n : Nat) : List AV → List Value → Prop
  | [], [] => True
  | a :: as, v :: vs => a_kn a = true ∧ a_rl L n a v ∧ a_st L n as vs
  | _, _ => False
def a_lo (L : Nat → Nat) (n : Nat) (als : List AV) (ls : Array Slot) : Prop := ls.size = als.length ∧ lv_wf ls ∧ ∀ (i : Nat) (a : AV), als[i]? = some a → a_kn a = true → ∃ v : Value, ls[i]? = some (.val v) ∧ a_rl L n a v
def a_ex (L L1 : Nat → Nat) (n : Nat) : Prop := ∀ q : Nat, q < n → L1 q = L q
theorem a_ex.trans {L L1 L2 : Nat → Nat} {n n1 : Nat} (h : a_ex L L1 n) (h1 : a_ex L1 L2 n1) (hn : n ≤ n1) : a_ex L L2 n := fun q hq => (h1 q (by omega)).trans (h q hq)
theorem a_null_to {L L1 : Nat → Nat} {n q : Nat} (h : a_ex L L1 n) (hq : q < n) : a_null L1 q = a_null L q := by
  unfold a_null
  split
  · rfl
  · rw [h q hq]
theorem a_rl.to {L L1 : Nat → Nat} {n n1 : Nat} {a : AV} {v : Value} (h : a_rl L n a v) (hx : a_ex L L1 n) (hn : n ≤ n1) : a_rl L1 n1 a v := by
  match a, h with
  | .inl z, h => exact h
  | .inr (.inl q), ⟨h1, h2⟩ => exact ⟨by omega, by rw [h2, a_null_to hx h1]⟩
  | .inr (.inr (.inl z)), h => exact h
  | .inr (.inr (.inr (.inl z))), h => exact h
  | .inr (.inr (.inr (.inr (.inl z)))), h => exact h
  | .inr (.inr (.inr (.inr (.inr true)))), h => exact h
  | .inr (.inr (.inr (.inr (.inr false)))), h => exact trivial
theorem a_st.to {L L1 : Nat → Nat} {n n1 : Nat} (hx : a_ex L L1 n) (hn : n ≤ n1) : ∀ {as : List AV} {vs : List Value}, a_st L n as vs → a_st L1 n1 as vs
  | [], [], _ => trivial
  | _ :: _, _ :: _, ⟨h1, h2, h3⟩ => ⟨h1, h2.to hx hn, h3.to hx hn⟩
  | [], _ :: _, h => h.elim
  | _ :: _, [], h => h.elim
theorem a_lo.to {L L1 : Nat → Nat} {n n1 : Nat} {als : List AV} {ls : Array Slot} (h : a_lo L n als ls) (hx : a_ex L L1 n) (hn : n ≤ n1) : a_lo L1 n1 als ls := by
  obtain ⟨h1, h2, h3⟩ := h
  refine ⟨h1, h2, fun i a hi hk => ?_⟩
  obtain ⟨v, e1, e2⟩ := h3 i a hi hk
  exact ⟨v, e1, e2.to hx hn⟩
theorem a_rl_cat {L : Nat → Nat} {n : Nat} {a : AV} {v : Value} (h : a_rl L n a v) (hk : a_kn a = true) : v.category = a_cat a := by
  match a, h, hk with
  | .inl z, ⟨w, e, _⟩, _ => subst e; rfl
  | .inr (.inl q), ⟨_, h2⟩, _ => subst h2; unfold a_null; split <;> rfl
  | .inr (.inr (.inl z)), ⟨w, e, _⟩, _ => subst e; rfl
  | .inr (.inr (.inr (.inl z))), h, _ => rw [show v = .float z from h]; rfl
  | .inr (.inr (.inr (.inr (.inl z)))), h, _ => rw [show v = .double z from h]; rfl
  | .inr (.inr (.inr (.inr (.inr true)))), ⟨r, e⟩, _ => subst e; cases r <;> rfl
  | .inr (.inr (.inr (.inr (.inr false)))), _, hk => cases hk
theorem a_st_sum {L : Nat → Nat} {n : Nat} : ∀ {as : List AV} {vs : List Value}, a_st L n as vs → (vs.map fun v => v.category).sum = a_sum as
  | [], [], _ => rfl
  | a :: as, v :: vs, ⟨h1, h2, h3⟩ => by
    show (v.category :: vs.map fun v => v.category).sum = (a_cat a :: as.map a_cat).sum
    rw [List.sum_cons, List.sum_cons, a_rl_cat h2 h1, a_st_sum h3]
    rfl
  | [], _ :: _, h => h.elim
  | _ :: _, [], h => h.elim
/-- kinds that may be written -/
def a_wr (k : Nat) : Bool := (decide (1 ≤ k) && decide (k ≤ 11)) || (decide (20 ≤ k) && decide (k ≤ 23)) || decide (30 ≤ k)
def a_arr (k : Nat) : Bool := decide (k = 20) || decide (k = 21) || decide (k = 22) || decide (k = 23) || decide (k = 32) || decide (k = 34) || decide (k = 36)
def a_elem (k : Nat) : FieldType := if k = 20 then .int else if k = 21 then .boolean else if k = 22 then .long else if k = 23 then .double else .object (k_name (k - 30))
def a_fv (L : Nat → Nat) (σ : AS) (c r j : Nat) : Value := if k_ref c j = true then a_null L (σ.2.2.1 r j) else .int (Int32.ofInt (σ.2.1 r j))
def a_ev (L : Nat → Nat) (σ : AS) (k r j : Nat) : Value := if 30 ≤ k then a_null L (σ.2.2.1 r j) else if k = 22 then .long (Int64.ofInt (σ.2.1 r j)) else if k = 23 then .double (UInt64.ofNat (σ.2.1 r j).toNat) else .int (Int32.ofInt (σ.2.1 r j))
def a_rg (k : Nat) (z : Int) : Prop := if k = 22 then (Int64.ofInt z).toInt = z else if k = 23 then ((UInt64.ofNat z.toNat).toNat : Int) = z else (Int32.ofInt z).toInt = z
def a_A (bs : Nat) : Nat → Prop := fun q => bs ≤ q
def a_cell (D : va_G) (tA : Nat → ClassId) (bs : Nat) (L : Nat → Nat) (σ : AS) (U : State) (H : Heap) (r : Nat) : Prop :=
  if (σ.1 r).1 ≤ 11 then bs ≤ L r ∧ t_OB (L r) (D.1 ((σ.1 r).1 - 1)) (k_size ((σ.1 r).1 - 1)) (D.2 ((σ.1 r).1 - 1)) H (fun j => a_fv L σ ((σ.1 r).1 - 1) r j)
  else if (σ.1 r).1 = 24 then ¬ bs ≤ L r ∧ (σ.1 r).2 < 2147483648 ∧ ∃ scr : Cell, H[L r]? = some scr ∧ U.isArrayOf scr .int ∧ scr.vm ≠ .unknown ∧ scr.slots.size = (σ.1 r).2 ∧ ∀ j : Nat, j < (σ.1 r).2 → scr.slots[j]? = some (.int (Int32.ofInt (σ.2.1 r j)))
  else if (σ.1 r).1 = 25 then va_O "java/lang/String" (L r) (a_A bs) U H ∧ va_OF "java/lang/String" "coder" "B" (.int 0) (L r) (a_A bs) U H ∧ va_OF "java/lang/String" "value" "[B" (.ref (L (σ.2.2.1 r 0))) (L r) (a_A bs) U H ∧ σ.2.1 r 1 = 0 ∧ σ.2.2.1 r 0 ≠ 0
  else if (σ.1 r).1 = 26 then (σ.1 r).2 < 2147483648 ∧ va_T .byte (L r) (σ.1 r).2 (fun j => .int (Int32.ofInt (σ.2.1 r j))) (a_A bs) U H
  else a_arr (σ.1 r).1 = true ∧ bs ≤ L r ∧ (σ.1 r).2 < 2147483648 ∧ H[L r]? = some (arrV (tA (σ.1 r).1) (σ.1 r).2 (fun j => a_ev L σ (σ.1 r).1 r j))
theorem a_cell.to {D : va_G} {tA : Nat → ClassId} {bs r : Nat} {L L1 : Nat → Nat} {σ σ1 : AS} {U : State} {H H1 : Heap} (h : a_cell D tA bs L σ U H r) (hk : σ1.1 r = σ.1 r) (hm : σ1.2.1 r = σ.2.1 r) (hg : σ1.2.2.1 r = σ.2.2.1 r) (hL : L1 r = L r) (hG : ∀ j, a_null L1 (σ.2.2.1 r j) = a_null L (σ.2.2.1 r j)) (hG0 : σ.2.2.1 r 0 ≠ 0 → L1 (σ.2.2.1 r 0) = L (σ.2.2.1 r 0)) (hq : H1[L r]? = H[L r]?) : a_cell D tA bs L1 σ1 U H1 r := by
  unfold a_cell at h ⊢
  rw [hk, hL]
  have ef : (fun j => a_fv L1 σ1 ((σ.1 r).1 - 1) r j) = (fun j => a_fv L σ ((σ.1 r).1 - 1) r j) := by
    funext j
    unfold a_fv
    rw [hm, hg, hG j]
  have ee : (fun j => a_ev L1 σ1 (σ.1 r).1 r j) = (fun j => a_ev L σ (σ.1 r).1 r j) := by
    funext j
    unfold a_ev
    rw [hm, hg, hG j]
  rw [ef, ee, hm, hg]
  split
  · rename_i h1
    rw [if_pos h1] at h
    exact ⟨h.1, h.2.kept hq⟩
  · rename_i h1
    rw [if_neg h1] at h
    split
    · rename_i h2
      rw [if_pos h2] at h
      rw [hq]
      exact h
    · rename_i h2
      rw [if_neg h2] at h
      split
      · rename_i h3
        rw [if_pos h3] at h
        obtain ⟨a1, a2, a3, a4, a5⟩ := h
        rw [hG0 a5]
        unfold va_O va_OF at *
        rw [hq]
        exact ⟨a1, a2, a3, a4, a5⟩
      · rename_i h3
        rw [if_neg h3] at h
        split
        · rename_i h4
          rw [if_pos h4] at h
          unfold va_T at *
          rw [hq]
          exact h
        · rename_i h4
          rw [if_neg h4] at h
          rw [hq]
          exact h
theorem a_cell.moved {D : va_G} {tA : Nat → ClassId} {bs r : Nat} {L : Nat → Nat} {σ : AS} {u U : State} {H : Heap} (hvm : u.vm.Alike U.vm) (h : a_cell D tA bs L σ u H r) : a_cell D tA bs L σ U H r := by
  unfold a_cell at h ⊢
  split
  · rename_i h1
    rw [if_pos h1] at h
    exact h
  · rename_i h1
    rw [if_neg h1] at h
    split
    · rename_i h2
      rw [if_pos h2] at h
      obtain ⟨a0, a1, scr, a2, a3, a4⟩ := h
      exact ⟨a0, a1, scr, a2, State.isArrayOf_alike hvm a3, a4⟩
    · rename_i h2
      rw [if_neg h2] at h
      split
      · rename_i h3
        rw [if_pos h3] at h
        obtain ⟨a1, a2, a3, a4, a5⟩ := h
        exact ⟨a1.moved hvm, a2.moved hvm, a3.moved hvm, a4, a5⟩
      · rename_i h3
        rw [if_neg h3] at h
        split
        · rename_i h4
          rw [if_pos h4] at h
          exact ⟨h.1, h.2.moved hvm⟩
        · rename_i h4
          rw [if_neg h4] at h
          exact h
/-- the world -/
def a_W (D : va_G) (tA : Nat → ClassId) (bs : Nat) (aS L : Nat → Nat) (σ : AS) (U : State) (H : Heap) : Prop :=
  va_K D vwCl [] U ∧ (∀ k, a_arr k = true → ArrOfT U (tA k) (a_elem k) ∧ va_RA U (tA k) (a_elem k)) ∧ bs ≤ H.size ∧
  (∀ r, (σ.1 r).1 ≠ 0 → a_cell D tA bs L σ U H r) ∧
  (∀ r q, a_wr (σ.1 r).1 = true → a_wr (σ.1 q).1 = true → L r = L q → r = q) ∧
  (∀ r, σ.2.2.2.1 ≤ r → (σ.1 r).1 = 0) ∧ (σ.1 0).1 = 0 ∧ 17 ≤ σ.2.2.2.1 ∧
  (∀ r j, σ.2.2.1 r j < σ.2.2.2.1) ∧ (∀ r j, a_rg (σ.1 r).1 (σ.2.1 r j)) ∧ a_ex aS L 17
theorem a_W.moved {D : va_G} {tA : Nat → ClassId} {bs : Nat} {aS L : Nat → Nat} {σ : AS} {u U : State} {H : Heap} (hvm : u.vm.Alike U.vm) (h : a_W D tA bs aS L σ u H) : a_W D tA bs aS L σ U H := by
  obtain ⟨h1, h2, h3, h4, h5⟩ := h
  exact ⟨va_K.moved hvm h1, fun k hk => ⟨arrOfT_moved hvm (h2 k hk).1, (h2 k hk).2.moved hvm⟩, h3, fun r hr => (h4 r hr).moved hvm, h5⟩
theorem a_cell_lt {D : va_G} {tA : Nat → ClassId} {bs r : Nat} {L : Nat → Nat} {σ : AS} {U : State} {H : Heap} (h : a_cell D tA bs L σ U H r) : L r < H.size := by
  unfold a_cell at h
  split at h
  · obtain ⟨-, cell, h2, -⟩ := h
    exact (Array.getElem?_eq_some_iff.mp h2).1
  · split at h
    · obtain ⟨-, -, scr, h2, -⟩ := h
      exact (Array.getElem?_eq_some_iff.mp h2).1
    · split at h
      · obtain ⟨⟨cell, h2, -⟩, -⟩ := h
        exact (Array.getElem?_eq_some_iff.mp h2).1
      · split at h
        · obtain ⟨-, cell, h2, -⟩ := h
          exact (Array.getElem?_eq_some_iff.mp h2).1
        · exact (Array.getElem?_eq_some_iff.mp h.2.2.2).1
theorem a_cell_wr {D : va_G} {tA : Nat → ClassId} {bs r : Nat} {L : Nat → Nat} {σ : AS} {U : State} {H : Heap} (h : a_cell D tA bs L σ U H r) (h0 : (σ.1 r).1 ≠ 0) : (a_wr (σ.1 r).1 = true ∧ bs ≤ L r) ∨ ¬ bs ≤ L r := by
  unfold a_cell at h
  split at h
  · rename_i h1
    refine Or.inl ⟨?_, h.1⟩
    simp only [a_wr, Bool.or_eq_true, Bool.and_eq_true, decide_eq_true_eq]
    omega
  · split at h
    · exact Or.inr h.1
    · split at h
      · obtain ⟨⟨cell, -, -, -, h2⟩, -⟩ := h
        exact Or.inr h2
      · split at h
        · obtain ⟨-, cell, -, -, -, -, -, -, h2⟩ := h
          exact Or.inr h2
        · refine Or.inl ⟨?_, h.2.1⟩
          have := h.1
          simp only [a_arr, Bool.or_eq_true, decide_eq_true_eq] at this
          simp only [a_wr, Bool.or_eq_true, Bool.and_eq_true, decide_eq_true_eq]
          omega
/-- one cell is written -/
theorem a_W.put {D : va_G} {tA : Nat → ClassId} {bs r0 : Nat} {aS L : Nat → Nat} {σ σ1 : AS} {U : State} {H H1 : Heap} (h : a_W D tA bs aS L σ U H) (h0 : (σ.1 r0).1 ≠ 0) (hw : a_wr (σ.1 r0).1 = true) (hk : σ1.1 = σ.1) (hn : σ1.2.2.2 = σ.2.2.2)
    (hm : ∀ r, r ≠ r0 → σ1.2.1 r = σ.2.1 r ∧ σ1.2.2.1 r = σ.2.2.1 r) (hg : ∀ j, σ1.2.2.1 r0 j < σ.2.2.2.1) (hr : ∀ j, a_rg (σ.1 r0).1 (σ1.2.1 r0 j)) (hc : a_cell D tA bs L σ1 U H1 r0) (sz : H1.size = H.size) (oq : ∀ q : Nat, q ≠ L r0 → H1[q]? = H[q]?) : a_W D tA bs aS L σ1 U H1 := by
  obtain ⟨h1, h2, h3, h4, h5, h6, h7, h8, h9, h10, h11⟩ := h
  have hb : bs ≤ L r0 := by
    rcases a_cell_wr hc (by rw [hk]; exact h0) with q | q
    · exact q.2
    · exfalso
      rcases a_cell_wr (h4 r0 h0) h0 with z | z
      · exact q z.2
      · unfold a_cell at hc
        rw [hk] at hc
        simp only [a_wr, Bool.or_eq_true, Bool.and_eq_true, decide_eq_true_eq] at hw
        split at hc
        · exact q hc.1
        · split at hc
          · omega
          · split at hc
            · omega
            · split at hc
              · omega
              · exact q hc.2.1
  refine ⟨h1, h2, by rw [sz]; exact h3, fun r hr0 => ?_, fun r q hr0 hq0 e => ?_, fun r hr0 => ?_, by rw [hk]; exact h7, by rw [hn]; exact h8, fun r j => ?_, fun r j => ?_, h11⟩
  · by_cases e : r = r0
    · subst e; exact hc
    · rw [hk] at hr0
      refine (h4 r hr0).to (by rw [hk]) (hm r e).1 (hm r e).2 rfl (fun _ => rfl) (fun _ => rfl) (oq _ fun z => ?_)
      rcases a_cell_wr (h4 r hr0) hr0 with q | q
      · exact e (h5 r r0 q.1 hw z)
      · exact q (by rw [z]; exact hb)
  · rw [hk] at hr0 hq0
    exact h5 r q hr0 hq0 e
  · rw [hk]
    rw [hn] at hr0
    exact h6 r hr0
  · rw [hn]
    by_cases e : r = r0
    · subst e; exact hg j
    · rw [(hm r e).2]; exact h9 r j
  · rw [hk]
    by_cases e : r = r0
    · subst e; exact hr j
    · rw [(hm r e).1]; exact h10 r j
/-- the heap grows -/
theorem a_W.grow {D : va_G} {tA : Nat → ClassId} {bs : Nat} {aS L : Nat → Nat} {σ σ1 : AS} {U : State} {H H1 : Heap} (h : a_W D tA bs aS L σ U H) (hk : σ1.1 = σ.1) (hm : σ1.2.1 = σ.2.1) (hg : σ1.2.2.1 = σ.2.2.1) (hn : σ1.2.2.2.1 = σ.2.2.2.1) (sz : H.size ≤ H1.size) (oq : ∀ q : Nat, q < H.size → H1[q]? = H[q]?) : a_W D tA bs aS L σ1 U H1 := by
  obtain ⟨h1, h2, h3, h4, h5, h6, h7, h8, h9, h10, h11⟩ := h
  refine ⟨h1, h2, by omega, fun r hr0 => ?_, by rw [hk]; exact h5, by rw [hk, hn]; exact h6, by rw [hk]; exact h7, by rw [hn]; exact h8, by rw [hg, hn]; exact h9, by rw [hk, hm]; exact h10, h11⟩
  rw [hk] at hr0
  exact (h4 r hr0).to (by rw [hk]) (by rw [hm]) (by rw [hg]) rfl (fun _ => rfl) (fun _ => rfl) (oq _ (a_cell_lt (h4 r hr0)))
/-- a cell is made -/
theorem a_W.mk {D : va_G} {tA : Nat → ClassId} {bs k len n : Nat} {aS L : Nat → Nat} {σ : AS} {U : State} {H H1 : Heap} (h : a_W D tA bs aS L σ U H) (hk : a_wr k = true) (sz : H1.size = H.size + 1) (oq : ∀ q : Nat, q < H.size → H1[q]? = H[q]?)
    (hc : a_cell D tA bs (va_up L σ.2.2.2.1 H.size) (a_new σ k len n) U H1 σ.2.2.2.1) : a_W D tA bs aS (va_up L σ.2.2.2.1 H.size) (a_new σ k len n) U H1 ∧ a_ex L (va_up L σ.2.2.2.1 H.size) σ.2.2.2.1 := by
  obtain ⟨h1, h2, h3, h4, h5, h6, h7, h8, h9, h10, h11⟩ := h
  have hx : a_ex L (va_up L σ.2.2.2.1 H.size) σ.2.2.2.1 := fun q hq => va_up_ne _ _ (by omega)
  have ek : ∀ r, r ≠ σ.2.2.2.1 → (a_new σ k len n).1 r = σ.1 r := fun r hr => by simp [a_new, upk, hr]
  have hlt : ∀ r, (σ.1 r).1 ≠ 0 → r < σ.2.2.2.1 := fun r hr => by
    rcases Nat.lt_or_ge r σ.2.2.2.1 with q | q
    · exact q
    · exact absurd (h6 r q) hr
  have wr0 : ∀ j, a_wr j = true → j ≠ 0 := fun j hj e => by subst e; cases hj
  refine ⟨⟨h1, h2, by omega, fun r hr0 => ?_, fun r q hr0 hq0 e => ?_, fun r hr0 => ?_, ?_, ?_, fun r j => ?_, fun r j => ?_, fun q hq => ?_⟩, hx⟩
  · by_cases e : r = σ.2.2.2.1
    · subst e; exact hc
    · rw [ek r e] at hr0
      have hr1 := hlt r hr0
      refine (h4 r hr0).to (ek r e) (by funext j; simp [a_new, upr, e]) (by funext j; simp [a_new, upr, e]) (hx r hr1) (fun j => a_null_to hx (h9 r j)) (fun _ => hx _ (h9 r 0)) (oq _ (a_cell_lt (h4 r hr0)))
  · by_cases e1 : r = σ.2.2.2.1 <;> by_cases e2 : q = σ.2.2.2.1
    · rw [e1, e2]
    · exfalso
      rw [ek q e2] at hq0
      have hq1 := hlt q (wr0 _ hq0)
      have := a_cell_lt (h4 q (wr0 _ hq0))
      rw [e1, va_up_self, hx q hq1] at e
      omega
    · exfalso
      rw [ek r e1] at hr0
      have hq1 := hlt r (wr0 _ hr0)
      have := a_cell_lt (h4 r (wr0 _ hr0))
      rw [e2, va_up_self, hx r hq1] at e
      omega
    · rw [ek r e1] at hr0
      rw [ek q e2] at hq0
      rw [hx r (hlt r (wr0 _ hr0)), hx q (hlt q (wr0 _ hq0))] at e
      exact h5 r q hr0 hq0 e
  · have hr1 : σ.2.2.2.1 + 1 ≤ r := hr0
    rw [ek r (by omega)]
    exact h6 r (by omega)
  · rw [ek 0 (by omega)]
    exact h7
  · show 17 ≤ σ.2.2.2.1 + 1
    omega
  · show upr σ.2.2.1 σ.2.2.2.1 (fun _ => 0) r j < σ.2.2.2.1 + 1
    unfold upr
    split
    · show 0 < _
      omega
    · have := h9 r j
      omega
  · show a_rg ((a_new σ k len n).1 r).1 (upr σ.2.1 σ.2.2.2.1 (fun _ => 0) r j)
    by_cases e : r = σ.2.2.2.1
    · subst e
      rw [show upr σ.2.1 σ.2.2.2.1 (fun _ => 0) σ.2.2.2.1 j = 0 by simp [upr]]
      unfold a_rg
      split
      · decide
      · split
        · decide
        · decide
    · rw [ek r e]
      simp only [upr, if_neg e]
      exact h10 r j
  · rw [hx q (by omega)]
    exact h11 q hq
