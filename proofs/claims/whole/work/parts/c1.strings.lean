/-! ===== the start, as the Statement gives it (by wip/whole/spec/gen_world.py) ===== -/
def SOK (b : Nat) (s : State) (own : String) (k : Nat) (l : List Int) (aK aV : Nat) : Prop := (Term.string own k).eval #[Value.ref b] s none [] s = some (.ref aK) ∧ va_O "java/lang/String" aK (a_A s.heap.size) s s.heap ∧ va_OF "java/lang/String" "coder" "B" (.int 0) aK (a_A s.heap.size) s s.heap ∧ va_OF "java/lang/String" "value" "[B" (.ref aV) aK (a_A s.heap.size) s s.heap ∧ va_T .byte aV l.length (fun j => .int (Int32.ofInt (l.getD j 0))) (a_A s.heap.size) s s.heap
section STW
variable {b : Nat} {s : State}
theorem not_aA : ∀ a : Nat, a < s.heap.size → ¬ a_A s.heap.size a := fun a h => Nat.not_le.mpr h
theorem st_0 (hgv : (Jvm.Cond.and given_1 narrow_1).before #[Value.ref b] s = true) : ∃ aK aV, SOK b s "BookmobileRadio$Reader" 42 [114, 97, 100, 105, 111] aK aV := by
  have hs := flat_of_before _ hgv
  have h1 : (Cond.exactly (.string "BookmobileRadio$Reader" 42) "java/lang/String").before #[Value.ref b] s = true := hs _ (by decide +kernel)
  have h2 : (Cond.eq (.field (.string "BookmobileRadio$Reader" 42) "java/lang/String" "coder" "B") (.int 0)).before #[Value.ref b] s = true := hs _ (by decide +kernel)
  have h3 : (Cond.arrayOf (.field (.string "BookmobileRadio$Reader" 42) "java/lang/String" "value" "[B") .byte).before #[Value.ref b] s = true := hs _ (by decide +kernel)
  have h4 : (Cond.eq (.length (.field (.string "BookmobileRadio$Reader" 42) "java/lang/String" "value" "[B")) (.int 5)).before #[Value.ref b] s = true := hs _ (by decide +kernel)
  have e0 : (Cond.eq (.elem (.field (.string "BookmobileRadio$Reader" 42) "java/lang/String" "value" "[B") (.int 0)) (.int 114)).before #[Value.ref b] s = true := hs _ (by decide +kernel)
  have e1 : (Cond.eq (.elem (.field (.string "BookmobileRadio$Reader" 42) "java/lang/String" "value" "[B") (.int 1)) (.int 97)).before #[Value.ref b] s = true := hs _ (by decide +kernel)
  have e2 : (Cond.eq (.elem (.field (.string "BookmobileRadio$Reader" 42) "java/lang/String" "value" "[B") (.int 2)) (.int 100)).before #[Value.ref b] s = true := hs _ (by decide +kernel)
  have e3 : (Cond.eq (.elem (.field (.string "BookmobileRadio$Reader" 42) "java/lang/String" "value" "[B") (.int 3)) (.int 105)).before #[Value.ref b] s = true := hs _ (by decide +kernel)
  have e4 : (Cond.eq (.elem (.field (.string "BookmobileRadio$Reader" 42) "java/lang/String" "value" "[B") (.int 4)) (.int 111)).before #[Value.ref b] s = true := hs _ (by decide +kernel)
  obtain ⟨adK, adV, h, he⟩ := vk_Sof (args := #[Value.ref b]) (s := s) (N := 1) (tm := fun _ => .string "BookmobileRadio$Reader" 42) (len := [5]) (byt := [[114, 97, 100, 105, 111]]) (A := a_A s.heap.size)
    (fun i hi => by obtain rfl : i = 0 := (by omega); decide) (fun _ _ => h1) (fun _ _ => h2) (fun _ _ => h3) (fun i hi => by obtain rfl : i = 0 := (by omega); exact h4)
    (fun i hi j hj => by
      obtain rfl : i = 0 := (by omega)
      have hj2 : j < 5 := hj
      have hj3 : j = 0 ∨ j = 1 ∨ j = 2 ∨ j = 3 ∨ j = 4 := by omega
      rcases hj3 with rfl | rfl | rfl | rfl | rfl
      · exact e0
      · exact e1
      · exact e2
      · exact e3
      · exact e4)
    (fun i j hi hj hij => absurd (by omega) hij) not_aA
  refine ⟨adK 0, adV 0, he 0 (by decide), (h.1 0 (by decide)).1, (h.1 0 (by decide)).2.1, (h.1 0 (by decide)).2.2.1, ?_⟩
  have hT := (h.1 0 (by decide)).2.2.2
  have ef : (fun j => Value.int ((([[114, 97, 100, 105, 111]] : List (List Int32)).getD 0 []).getD j 0)) = (fun j => Value.int (Int32.ofInt (([114, 97, 100, 105, 111] : List Int).getD j 0))) := by
    funext j
    match j with
    | 0 => rfl
    | 1 => rfl
    | 2 => rfl
    | 3 => rfl
    | 4 => rfl
    | n + 5 => rfl
  rw [ef] at hT
  exact hT
theorem st_1 (hgv : (Jvm.Cond.and given_1 narrow_1).before #[Value.ref b] s = true) : ∃ aK aV, SOK b s "BookmobileRadio$Reader" 65 [115, 116, 111, 112] aK aV := by
  have hs := flat_of_before _ hgv
  have h1 : (Cond.exactly (.string "BookmobileRadio$Reader" 65) "java/lang/String").before #[Value.ref b] s = true := hs _ (by decide +kernel)
  have h2 : (Cond.eq (.field (.string "BookmobileRadio$Reader" 65) "java/lang/String" "coder" "B") (.int 0)).before #[Value.ref b] s = true := hs _ (by decide +kernel)
  have h3 : (Cond.arrayOf (.field (.string "BookmobileRadio$Reader" 65) "java/lang/String" "value" "[B") .byte).before #[Value.ref b] s = true := hs _ (by decide +kernel)
  have h4 : (Cond.eq (.length (.field (.string "BookmobileRadio$Reader" 65) "java/lang/String" "value" "[B")) (.int 4)).before #[Value.ref b] s = true := hs _ (by decide +kernel)
  have e0 : (Cond.eq (.elem (.field (.string "BookmobileRadio$Reader" 65) "java/lang/String" "value" "[B") (.int 0)) (.int 115)).before #[Value.ref b] s = true := hs _ (by decide +kernel)
  have e1 : (Cond.eq (.elem (.field (.string "BookmobileRadio$Reader" 65) "java/lang/String" "value" "[B") (.int 1)) (.int 116)).before #[Value.ref b] s = true := hs _ (by decide +kernel)
  have e2 : (Cond.eq (.elem (.field (.string "BookmobileRadio$Reader" 65) "java/lang/String" "value" "[B") (.int 2)) (.int 111)).before #[Value.ref b] s = true := hs _ (by decide +kernel)
  have e3 : (Cond.eq (.elem (.field (.string "BookmobileRadio$Reader" 65) "java/lang/String" "value" "[B") (.int 3)) (.int 112)).before #[Value.ref b] s = true := hs _ (by decide +kernel)
  obtain ⟨adK, adV, h, he⟩ := vk_Sof (args := #[Value.ref b]) (s := s) (N := 1) (tm := fun _ => .string "BookmobileRadio$Reader" 65) (len := [4]) (byt := [[115, 116, 111, 112]]) (A := a_A s.heap.size)
    (fun i hi => by obtain rfl : i = 0 := (by omega); decide) (fun _ _ => h1) (fun _ _ => h2) (fun _ _ => h3) (fun i hi => by obtain rfl : i = 0 := (by omega); exact h4)
    (fun i hi j hj => by
      obtain rfl : i = 0 := (by omega)
      have hj2 : j < 4 := hj
      have hj3 : j = 0 ∨ j = 1 ∨ j = 2 ∨ j = 3 := by omega
      rcases hj3 with rfl | rfl | rfl | rfl
      · exact e0
      · exact e1
      · exact e2
      · exact e3)
    (fun i j hi hj hij => absurd (by omega) hij) not_aA
  refine ⟨adK 0, adV 0, he 0 (by decide), (h.1 0 (by decide)).1, (h.1 0 (by decide)).2.1, (h.1 0 (by decide)).2.2.1, ?_⟩
  have hT := (h.1 0 (by decide)).2.2.2
  have ef : (fun j => Value.int ((([[115, 116, 111, 112]] : List (List Int32)).getD 0 []).getD j 0)) = (fun j => Value.int (Int32.ofInt (([115, 116, 111, 112] : List Int).getD j 0))) := by
    funext j
    match j with
    | 0 => rfl
    | 1 => rfl
    | 2 => rfl
    | 3 => rfl
    | n + 4 => rfl
  rw [ef] at hT
  exact hT
theorem st_2 (hgv : (Jvm.Cond.and given_1 narrow_1).before #[Value.ref b] s = true) : ∃ aK aV, SOK b s "BookmobileRadio$Reader" 94 [104, 101, 97, 114, 115] aK aV := by
  have hs := flat_of_before _ hgv
  have h1 : (Cond.exactly (.string "BookmobileRadio$Reader" 94) "java/lang/String").before #[Value.ref b] s = true := hs _ (by decide +kernel)
  have h2 : (Cond.eq (.field (.string "BookmobileRadio$Reader" 94) "java/lang/String" "coder" "B") (.int 0)).before #[Value.ref b] s = true := hs _ (by decide +kernel)
  have h3 : (Cond.arrayOf (.field (.string "BookmobileRadio$Reader" 94) "java/lang/String" "value" "[B") .byte).before #[Value.ref b] s = true := hs _ (by decide +kernel)
  have h4 : (Cond.eq (.length (.field (.string "BookmobileRadio$Reader" 94) "java/lang/String" "value" "[B")) (.int 5)).before #[Value.ref b] s = true := hs _ (by decide +kernel)
  have e0 : (Cond.eq (.elem (.field (.string "BookmobileRadio$Reader" 94) "java/lang/String" "value" "[B") (.int 0)) (.int 104)).before #[Value.ref b] s = true := hs _ (by decide +kernel)
  have e1 : (Cond.eq (.elem (.field (.string "BookmobileRadio$Reader" 94) "java/lang/String" "value" "[B") (.int 1)) (.int 101)).before #[Value.ref b] s = true := hs _ (by decide +kernel)
  have e2 : (Cond.eq (.elem (.field (.string "BookmobileRadio$Reader" 94) "java/lang/String" "value" "[B") (.int 2)) (.int 97)).before #[Value.ref b] s = true := hs _ (by decide +kernel)
  have e3 : (Cond.eq (.elem (.field (.string "BookmobileRadio$Reader" 94) "java/lang/String" "value" "[B") (.int 3)) (.int 114)).before #[Value.ref b] s = true := hs _ (by decide +kernel)
  have e4 : (Cond.eq (.elem (.field (.string "BookmobileRadio$Reader" 94) "java/lang/String" "value" "[B") (.int 4)) (.int 115)).before #[Value.ref b] s = true := hs _ (by decide +kernel)
  obtain ⟨adK, adV, h, he⟩ := vk_Sof (args := #[Value.ref b]) (s := s) (N := 1) (tm := fun _ => .string "BookmobileRadio$Reader" 94) (len := [5]) (byt := [[104, 101, 97, 114, 115]]) (A := a_A s.heap.size)
    (fun i hi => by obtain rfl : i = 0 := (by omega); decide) (fun _ _ => h1) (fun _ _ => h2) (fun _ _ => h3) (fun i hi => by obtain rfl : i = 0 := (by omega); exact h4)
    (fun i hi j hj => by
      obtain rfl : i = 0 := (by omega)
      have hj2 : j < 5 := hj
      have hj3 : j = 0 ∨ j = 1 ∨ j = 2 ∨ j = 3 ∨ j = 4 := by omega
      rcases hj3 with rfl | rfl | rfl | rfl | rfl
      · exact e0
      · exact e1
      · exact e2
      · exact e3
      · exact e4)
    (fun i j hi hj hij => absurd (by omega) hij) not_aA
  refine ⟨adK 0, adV 0, he 0 (by decide), (h.1 0 (by decide)).1, (h.1 0 (by decide)).2.1, (h.1 0 (by decide)).2.2.1, ?_⟩
  have hT := (h.1 0 (by decide)).2.2.2
  have ef : (fun j => Value.int ((([[104, 101, 97, 114, 115]] : List (List Int32)).getD 0 []).getD j 0)) = (fun j => Value.int (Int32.ofInt (([104, 101, 97, 114, 115] : List Int).getD j 0))) := by
    funext j
    match j with
    | 0 => rfl
    | 1 => rfl
    | 2 => rfl
    | 3 => rfl
    | 4 => rfl
    | n + 5 => rfl
  rw [ef] at hT
  exact hT
theorem st_3 (hgv : (Jvm.Cond.and given_1 narrow_1).before #[Value.ref b] s = true) : ∃ aK aV, SOK b s "BookmobileRadio$Reader" 106 [111, 102, 102] aK aV := by
  have hs := flat_of_before _ hgv
  have h1 : (Cond.exactly (.string "BookmobileRadio$Reader" 106) "java/lang/String").before #[Value.ref b] s = true := hs _ (by decide +kernel)
  have h2 : (Cond.eq (.field (.string "BookmobileRadio$Reader" 106) "java/lang/String" "coder" "B") (.int 0)).before #[Value.ref b] s = true := hs _ (by decide +kernel)
  have h3 : (Cond.arrayOf (.field (.string "BookmobileRadio$Reader" 106) "java/lang/String" "value" "[B") .byte).before #[Value.ref b] s = true := hs _ (by decide +kernel)
  have h4 : (Cond.eq (.length (.field (.string "BookmobileRadio$Reader" 106) "java/lang/String" "value" "[B")) (.int 3)).before #[Value.ref b] s = true := hs _ (by decide +kernel)
  have e0 : (Cond.eq (.elem (.field (.string "BookmobileRadio$Reader" 106) "java/lang/String" "value" "[B") (.int 0)) (.int 111)).before #[Value.ref b] s = true := hs _ (by decide +kernel)
  have e1 : (Cond.eq (.elem (.field (.string "BookmobileRadio$Reader" 106) "java/lang/String" "value" "[B") (.int 1)) (.int 102)).before #[Value.ref b] s = true := hs _ (by decide +kernel)
  have e2 : (Cond.eq (.elem (.field (.string "BookmobileRadio$Reader" 106) "java/lang/String" "value" "[B") (.int 2)) (.int 102)).before #[Value.ref b] s = true := hs _ (by decide +kernel)
  obtain ⟨adK, adV, h, he⟩ := vk_Sof (args := #[Value.ref b]) (s := s) (N := 1) (tm := fun _ => .string "BookmobileRadio$Reader" 106) (len := [3]) (byt := [[111, 102, 102]]) (A := a_A s.heap.size)
    (fun i hi => by obtain rfl : i = 0 := (by omega); decide) (fun _ _ => h1) (fun _ _ => h2) (fun _ _ => h3) (fun i hi => by obtain rfl : i = 0 := (by omega); exact h4)
    (fun i hi j hj => by
      obtain rfl : i = 0 := (by omega)
      have hj2 : j < 3 := hj
      have hj3 : j = 0 ∨ j = 1 ∨ j = 2 := by omega
      rcases hj3 with rfl | rfl | rfl
      · exact e0
      · exact e1
      · exact e2)
    (fun i j hi hj hij => absurd (by omega) hij) not_aA
  refine ⟨adK 0, adV 0, he 0 (by decide), (h.1 0 (by decide)).1, (h.1 0 (by decide)).2.1, (h.1 0 (by decide)).2.2.1, ?_⟩
  have hT := (h.1 0 (by decide)).2.2.2
  have ef : (fun j => Value.int ((([[111, 102, 102]] : List (List Int32)).getD 0 []).getD j 0)) = (fun j => Value.int (Int32.ofInt (([111, 102, 102] : List Int).getD j 0))) := by
    funext j
    match j with
    | 0 => rfl
    | 1 => rfl
    | 2 => rfl
    | n + 3 => rfl
  rw [ef] at hT
  exact hT
theorem st_4 (hgv : (Jvm.Cond.and given_1 narrow_1).before #[Value.ref b] s = true) : ∃ aK aV, SOK b s "BookmobileRadioModel" 153 [111, 102, 102] aK aV := by
  have hs := flat_of_before _ hgv
  have h1 : (Cond.exactly (.string "BookmobileRadioModel" 153) "java/lang/String").before #[Value.ref b] s = true := hs _ (by decide +kernel)
  have h2 : (Cond.eq (.field (.string "BookmobileRadioModel" 153) "java/lang/String" "coder" "B") (.int 0)).before #[Value.ref b] s = true := hs _ (by decide +kernel)
  have h3 : (Cond.arrayOf (.field (.string "BookmobileRadioModel" 153) "java/lang/String" "value" "[B") .byte).before #[Value.ref b] s = true := hs _ (by decide +kernel)
  have h4 : (Cond.eq (.length (.field (.string "BookmobileRadioModel" 153) "java/lang/String" "value" "[B")) (.int 3)).before #[Value.ref b] s = true := hs _ (by decide +kernel)
  have e0 : (Cond.eq (.elem (.field (.string "BookmobileRadioModel" 153) "java/lang/String" "value" "[B") (.int 0)) (.int 111)).before #[Value.ref b] s = true := hs _ (by decide +kernel)
  have e1 : (Cond.eq (.elem (.field (.string "BookmobileRadioModel" 153) "java/lang/String" "value" "[B") (.int 1)) (.int 102)).before #[Value.ref b] s = true := hs _ (by decide +kernel)
  have e2 : (Cond.eq (.elem (.field (.string "BookmobileRadioModel" 153) "java/lang/String" "value" "[B") (.int 2)) (.int 102)).before #[Value.ref b] s = true := hs _ (by decide +kernel)
  obtain ⟨adK, adV, h, he⟩ := vk_Sof (args := #[Value.ref b]) (s := s) (N := 1) (tm := fun _ => .string "BookmobileRadioModel" 153) (len := [3]) (byt := [[111, 102, 102]]) (A := a_A s.heap.size)
    (fun i hi => by obtain rfl : i = 0 := (by omega); decide) (fun _ _ => h1) (fun _ _ => h2) (fun _ _ => h3) (fun i hi => by obtain rfl : i = 0 := (by omega); exact h4)
    (fun i hi j hj => by
      obtain rfl : i = 0 := (by omega)
      have hj2 : j < 3 := hj
      have hj3 : j = 0 ∨ j = 1 ∨ j = 2 := by omega
      rcases hj3 with rfl | rfl | rfl
      · exact e0
      · exact e1
      · exact e2)
    (fun i j hi hj hij => absurd (by omega) hij) not_aA
  refine ⟨adK 0, adV 0, he 0 (by decide), (h.1 0 (by decide)).1, (h.1 0 (by decide)).2.1, (h.1 0 (by decide)).2.2.1, ?_⟩
  have hT := (h.1 0 (by decide)).2.2.2
  have ef : (fun j => Value.int ((([[111, 102, 102]] : List (List Int32)).getD 0 []).getD j 0)) = (fun j => Value.int (Int32.ofInt (([111, 102, 102] : List Int).getD j 0))) := by
    funext j
    match j with
    | 0 => rfl
    | 1 => rfl
    | 2 => rfl
    | n + 3 => rfl
  rw [ef] at hT
  exact hT
theorem st_5 (hgv : (Jvm.Cond.and given_1 narrow_1).before #[Value.ref b] s = true) : ∃ aK aV, SOK b s "BookmobileRadioModel" 159 [114, 97, 100, 105, 111] aK aV := by
  have hs := flat_of_before _ hgv
  have h1 : (Cond.exactly (.string "BookmobileRadioModel" 159) "java/lang/String").before #[Value.ref b] s = true := hs _ (by decide +kernel)
  have h2 : (Cond.eq (.field (.string "BookmobileRadioModel" 159) "java/lang/String" "coder" "B") (.int 0)).before #[Value.ref b] s = true := hs _ (by decide +kernel)
  have h3 : (Cond.arrayOf (.field (.string "BookmobileRadioModel" 159) "java/lang/String" "value" "[B") .byte).before #[Value.ref b] s = true := hs _ (by decide +kernel)
  have h4 : (Cond.eq (.length (.field (.string "BookmobileRadioModel" 159) "java/lang/String" "value" "[B")) (.int 5)).before #[Value.ref b] s = true := hs _ (by decide +kernel)
  have e0 : (Cond.eq (.elem (.field (.string "BookmobileRadioModel" 159) "java/lang/String" "value" "[B") (.int 0)) (.int 114)).before #[Value.ref b] s = true := hs _ (by decide +kernel)
  have e1 : (Cond.eq (.elem (.field (.string "BookmobileRadioModel" 159) "java/lang/String" "value" "[B") (.int 1)) (.int 97)).before #[Value.ref b] s = true := hs _ (by decide +kernel)
  have e2 : (Cond.eq (.elem (.field (.string "BookmobileRadioModel" 159) "java/lang/String" "value" "[B") (.int 2)) (.int 100)).before #[Value.ref b] s = true := hs _ (by decide +kernel)
  have e3 : (Cond.eq (.elem (.field (.string "BookmobileRadioModel" 159) "java/lang/String" "value" "[B") (.int 3)) (.int 105)).before #[Value.ref b] s = true := hs _ (by decide +kernel)
  have e4 : (Cond.eq (.elem (.field (.string "BookmobileRadioModel" 159) "java/lang/String" "value" "[B") (.int 4)) (.int 111)).before #[Value.ref b] s = true := hs _ (by decide +kernel)
  obtain ⟨adK, adV, h, he⟩ := vk_Sof (args := #[Value.ref b]) (s := s) (N := 1) (tm := fun _ => .string "BookmobileRadioModel" 159) (len := [5]) (byt := [[114, 97, 100, 105, 111]]) (A := a_A s.heap.size)
    (fun i hi => by obtain rfl : i = 0 := (by omega); decide) (fun _ _ => h1) (fun _ _ => h2) (fun _ _ => h3) (fun i hi => by obtain rfl : i = 0 := (by omega); exact h4)
    (fun i hi j hj => by
      obtain rfl : i = 0 := (by omega)
      have hj2 : j < 5 := hj
      have hj3 : j = 0 ∨ j = 1 ∨ j = 2 ∨ j = 3 ∨ j = 4 := by omega
      rcases hj3 with rfl | rfl | rfl | rfl | rfl
      · exact e0
      · exact e1
      · exact e2
      · exact e3
      · exact e4)
    (fun i j hi hj hij => absurd (by omega) hij) not_aA
  refine ⟨adK 0, adV 0, he 0 (by decide), (h.1 0 (by decide)).1, (h.1 0 (by decide)).2.1, (h.1 0 (by decide)).2.2.1, ?_⟩
  have hT := (h.1 0 (by decide)).2.2.2
  have ef : (fun j => Value.int ((([[114, 97, 100, 105, 111]] : List (List Int32)).getD 0 []).getD j 0)) = (fun j => Value.int (Int32.ofInt (([114, 97, 100, 105, 111] : List Int).getD j 0))) := by
    funext j
    match j with
    | 0 => rfl
    | 1 => rfl
    | 2 => rfl
    | 3 => rfl
    | 4 => rfl
    | n + 5 => rfl
  rw [ef] at hT
  exact hT
theorem st_6 (hgv : (Jvm.Cond.and given_1 narrow_1).before #[Value.ref b] s = true) : ∃ aK aV, SOK b s "BookmobileRadioModel" 161 [115, 116, 111, 112] aK aV := by
  have hs := flat_of_before _ hgv
  have h1 : (Cond.exactly (.string "BookmobileRadioModel" 161) "java/lang/String").before #[Value.ref b] s = true := hs _ (by decide +kernel)
  have h2 : (Cond.eq (.field (.string "BookmobileRadioModel" 161) "java/lang/String" "coder" "B") (.int 0)).before #[Value.ref b] s = true := hs _ (by decide +kernel)
  have h3 : (Cond.arrayOf (.field (.string "BookmobileRadioModel" 161) "java/lang/String" "value" "[B") .byte).before #[Value.ref b] s = true := hs _ (by decide +kernel)
  have h4 : (Cond.eq (.length (.field (.string "BookmobileRadioModel" 161) "java/lang/String" "value" "[B")) (.int 4)).before #[Value.ref b] s = true := hs _ (by decide +kernel)
  have e0 : (Cond.eq (.elem (.field (.string "BookmobileRadioModel" 161) "java/lang/String" "value" "[B") (.int 0)) (.int 115)).before #[Value.ref b] s = true := hs _ (by decide +kernel)
  have e1 : (Cond.eq (.elem (.field (.string "BookmobileRadioModel" 161) "java/lang/String" "value" "[B") (.int 1)) (.int 116)).before #[Value.ref b] s = true := hs _ (by decide +kernel)
  have e2 : (Cond.eq (.elem (.field (.string "BookmobileRadioModel" 161) "java/lang/String" "value" "[B") (.int 2)) (.int 111)).before #[Value.ref b] s = true := hs _ (by decide +kernel)
  have e3 : (Cond.eq (.elem (.field (.string "BookmobileRadioModel" 161) "java/lang/String" "value" "[B") (.int 3)) (.int 112)).before #[Value.ref b] s = true := hs _ (by decide +kernel)
  obtain ⟨adK, adV, h, he⟩ := vk_Sof (args := #[Value.ref b]) (s := s) (N := 1) (tm := fun _ => .string "BookmobileRadioModel" 161) (len := [4]) (byt := [[115, 116, 111, 112]]) (A := a_A s.heap.size)
    (fun i hi => by obtain rfl : i = 0 := (by omega); decide) (fun _ _ => h1) (fun _ _ => h2) (fun _ _ => h3) (fun i hi => by obtain rfl : i = 0 := (by omega); exact h4)
    (fun i hi j hj => by
      obtain rfl : i = 0 := (by omega)
      have hj2 : j < 4 := hj
      have hj3 : j = 0 ∨ j = 1 ∨ j = 2 ∨ j = 3 := by omega
      rcases hj3 with rfl | rfl | rfl | rfl
      · exact e0
      · exact e1
      · exact e2
      · exact e3)
    (fun i j hi hj hij => absurd (by omega) hij) not_aA
  refine ⟨adK 0, adV 0, he 0 (by decide), (h.1 0 (by decide)).1, (h.1 0 (by decide)).2.1, (h.1 0 (by decide)).2.2.1, ?_⟩
  have hT := (h.1 0 (by decide)).2.2.2
  have ef : (fun j => Value.int ((([[115, 116, 111, 112]] : List (List Int32)).getD 0 []).getD j 0)) = (fun j => Value.int (Int32.ofInt (([115, 116, 111, 112] : List Int).getD j 0))) := by
    funext j
    match j with
    | 0 => rfl
    | 1 => rfl
    | 2 => rfl
    | 3 => rfl
    | n + 4 => rfl
  rw [ef] at hT
  exact hT
theorem st_7 (hgv : (Jvm.Cond.and given_1 narrow_1).before #[Value.ref b] s = true) : ∃ aK aV, SOK b s "BookmobileRadioModel" 166 [104, 101, 97, 114, 115] aK aV := by
  have hs := flat_of_before _ hgv
  have h1 : (Cond.exactly (.string "BookmobileRadioModel" 166) "java/lang/String").before #[Value.ref b] s = true := hs _ (by decide +kernel)
  have h2 : (Cond.eq (.field (.string "BookmobileRadioModel" 166) "java/lang/String" "coder" "B") (.int 0)).before #[Value.ref b] s = true := hs _ (by decide +kernel)
  have h3 : (Cond.arrayOf (.field (.string "BookmobileRadioModel" 166) "java/lang/String" "value" "[B") .byte).before #[Value.ref b] s = true := hs _ (by decide +kernel)
  have h4 : (Cond.eq (.length (.field (.string "BookmobileRadioModel" 166) "java/lang/String" "value" "[B")) (.int 5)).before #[Value.ref b] s = true := hs _ (by decide +kernel)
  have e0 : (Cond.eq (.elem (.field (.string "BookmobileRadioModel" 166) "java/lang/String" "value" "[B") (.int 0)) (.int 104)).before #[Value.ref b] s = true := hs _ (by decide +kernel)
  have e1 : (Cond.eq (.elem (.field (.string "BookmobileRadioModel" 166) "java/lang/String" "value" "[B") (.int 1)) (.int 101)).before #[Value.ref b] s = true := hs _ (by decide +kernel)
  have e2 : (Cond.eq (.elem (.field (.string "BookmobileRadioModel" 166) "java/lang/String" "value" "[B") (.int 2)) (.int 97)).before #[Value.ref b] s = true := hs _ (by decide +kernel)
  have e3 : (Cond.eq (.elem (.field (.string "BookmobileRadioModel" 166) "java/lang/String" "value" "[B") (.int 3)) (.int 114)).before #[Value.ref b] s = true := hs _ (by decide +kernel)
  have e4 : (Cond.eq (.elem (.field (.string "BookmobileRadioModel" 166) "java/lang/String" "value" "[B") (.int 4)) (.int 115)).before #[Value.ref b] s = true := hs _ (by decide +kernel)
  obtain ⟨adK, adV, h, he⟩ := vk_Sof (args := #[Value.ref b]) (s := s) (N := 1) (tm := fun _ => .string "BookmobileRadioModel" 166) (len := [5]) (byt := [[104, 101, 97, 114, 115]]) (A := a_A s.heap.size)
    (fun i hi => by obtain rfl : i = 0 := (by omega); decide) (fun _ _ => h1) (fun _ _ => h2) (fun _ _ => h3) (fun i hi => by obtain rfl : i = 0 := (by omega); exact h4)
    (fun i hi j hj => by
      obtain rfl : i = 0 := (by omega)
      have hj2 : j < 5 := hj
      have hj3 : j = 0 ∨ j = 1 ∨ j = 2 ∨ j = 3 ∨ j = 4 := by omega
      rcases hj3 with rfl | rfl | rfl | rfl | rfl
      · exact e0
      · exact e1
      · exact e2
      · exact e3
      · exact e4)
    (fun i j hi hj hij => absurd (by omega) hij) not_aA
  refine ⟨adK 0, adV 0, he 0 (by decide), (h.1 0 (by decide)).1, (h.1 0 (by decide)).2.1, (h.1 0 (by decide)).2.2.1, ?_⟩
  have hT := (h.1 0 (by decide)).2.2.2
  have ef : (fun j => Value.int ((([[104, 101, 97, 114, 115]] : List (List Int32)).getD 0 []).getD j 0)) = (fun j => Value.int (Int32.ofInt (([104, 101, 97, 114, 115] : List Int).getD j 0))) := by
    funext j
    match j with
    | 0 => rfl
    | 1 => rfl
    | 2 => rfl
    | 3 => rfl
    | 4 => rfl
    | n + 5 => rfl
  rw [ef] at hT
  exact hT
theorem sx_69 (htb : ∀ w ∈ tables_1, w.before #[Value.ref b] s = true) (hgv : (Jvm.Cond.and given_1 narrow_1).before #[Value.ref b] s = true) : ∃ sa, vk_R "BookmobileRadio" 69 "not so many bytes in the buffer" sa s := by
  have hs := flat_of_before _ hgv
  have h1 : (Cond.exactly (.string "BookmobileRadio" 69) "java/lang/String").before #[Value.ref b] s = true := hs _ (by decide +kernel)
  obtain ⟨a, c, cA, kA, q1, -⟩ := Cond.exactly_spec (args := #[Value.ref b]) (first := s) (o := none) (s := s) (idx := []) (t := .string "BookmobileRadio" 69) (cls := "java/lang/String") h1
  exact ⟨a, vk_R.of (A := #[Value.ref b]) (htb _ wt_x69) q1⟩
theorem sx_80 (htb : ∀ w ∈ tables_1, w.before #[Value.ref b] s = true) (hgv : (Jvm.Cond.and given_1 narrow_1).before #[Value.ref b] s = true) : ∃ sa, vk_R "BookmobileRadio" 80 "the text has an error" sa s := by
  have hs := flat_of_before _ hgv
  have h1 : (Cond.exactly (.string "BookmobileRadio" 80) "java/lang/String").before #[Value.ref b] s = true := hs _ (by decide +kernel)
  obtain ⟨a, c, cA, kA, q1, -⟩ := Cond.exactly_spec (args := #[Value.ref b]) (first := s) (o := none) (s := s) (idx := []) (t := .string "BookmobileRadio" 80) (cls := "java/lang/String") h1
  exact ⟨a, vk_R.of (A := #[Value.ref b]) (htb _ wt_x80) q1⟩
theorem sx_412 (htb : ∀ w ∈ tables_1, w.before #[Value.ref b] s = true) (hgv : (Jvm.Cond.and given_1 narrow_1).before #[Value.ref b] s = true) : ∃ sa, vk_R "BookmobileRadio" 412 "no text was loaded" sa s := by
  have hs := flat_of_before _ hgv
  have h1 : (Cond.exactly (.string "BookmobileRadio" 412) "java/lang/String").before #[Value.ref b] s = true := hs _ (by decide +kernel)
  obtain ⟨a, c, cA, kA, q1, -⟩ := Cond.exactly_spec (args := #[Value.ref b]) (first := s) (o := none) (s := s) (idx := []) (t := .string "BookmobileRadio" 412) (cls := "java/lang/String") h1
  exact ⟨a, vk_R.of (A := #[Value.ref b]) (htb _ wt_x412) q1⟩
theorem sx_155 (htb : ∀ w ∈ tables_1, w.before #[Value.ref b] s = true) (hgv : (Jvm.Cond.and given_1 narrow_1).before #[Value.ref b] s = true) : ∃ sa, vk_R "BookmobileRadio" 155 "no such count" sa s := by
  have hs := flat_of_before _ hgv
  have h1 : (Cond.exactly (.string "BookmobileRadio" 155) "java/lang/String").before #[Value.ref b] s = true := hs _ (by decide +kernel)
  obtain ⟨a, c, cA, kA, q1, -⟩ := Cond.exactly_spec (args := #[Value.ref b]) (first := s) (o := none) (s := s) (idx := []) (t := .string "BookmobileRadio" 155) (cls := "java/lang/String") h1
  exact ⟨a, vk_R.of (A := #[Value.ref b]) (htb _ wt_x155) q1⟩
theorem sx_414 (htb : ∀ w ∈ tables_1, w.before #[Value.ref b] s = true) (hgv : (Jvm.Cond.and given_1 narrow_1).before #[Value.ref b] s = true) : ∃ sa, vk_R "BookmobileRadio" 414 "no such listener" sa s := by
  have hs := flat_of_before _ hgv
  have h1 : (Cond.exactly (.string "BookmobileRadio" 414) "java/lang/String").before #[Value.ref b] s = true := hs _ (by decide +kernel)
  obtain ⟨a, c, cA, kA, q1, -⟩ := Cond.exactly_spec (args := #[Value.ref b]) (first := s) (o := none) (s := s) (idx := []) (t := .string "BookmobileRadio" 414) (cls := "java/lang/String") h1
  exact ⟨a, vk_R.of (A := #[Value.ref b]) (htb _ wt_x414) q1⟩
theorem sx_416 (htb : ∀ w ∈ tables_1, w.before #[Value.ref b] s = true) (hgv : (Jvm.Cond.and given_1 narrow_1).before #[Value.ref b] s = true) : ∃ sa, vk_R "BookmobileRadio" 416 "no such slot" sa s := by
  have hs := flat_of_before _ hgv
  have h1 : (Cond.exactly (.string "BookmobileRadio" 416) "java/lang/String").before #[Value.ref b] s = true := hs _ (by decide +kernel)
  obtain ⟨a, c, cA, kA, q1, -⟩ := Cond.exactly_spec (args := #[Value.ref b]) (first := s) (o := none) (s := s) (idx := []) (t := .string "BookmobileRadio" 416) (cls := "java/lang/String") h1
  exact ⟨a, vk_R.of (A := #[Value.ref b]) (htb _ wt_x416) q1⟩
theorem sx_420 (htb : ∀ w ∈ tables_1, w.before #[Value.ref b] s = true) (hgv : (Jvm.Cond.and given_1 narrow_1).before #[Value.ref b] s = true) : ∃ sa, vk_R "BookmobileRadio" 420 "out of range" sa s := by
  have hs := flat_of_before _ hgv
  have h1 : (Cond.exactly (.string "BookmobileRadio" 420) "java/lang/String").before #[Value.ref b] s = true := hs _ (by decide +kernel)
  obtain ⟨a, c, cA, kA, q1, -⟩ := Cond.exactly_spec (args := #[Value.ref b]) (first := s) (o := none) (s := s) (idx := []) (t := .string "BookmobileRadio" 420) (cls := "java/lang/String") h1
  exact ⟨a, vk_R.of (A := #[Value.ref b]) (htb _ wt_x420) q1⟩
theorem sx_178 (htb : ∀ w ∈ tables_1, w.before #[Value.ref b] s = true) (hgv : (Jvm.Cond.and given_1 narrow_1).before #[Value.ref b] s = true) : ∃ sa, vk_R "BookmobileRadio" 178 "not so many on the air" sa s := by
  have hs := flat_of_before _ hgv
  have h1 : (Cond.exactly (.string "BookmobileRadio" 178) "java/lang/String").before #[Value.ref b] s = true := hs _ (by decide +kernel)
  obtain ⟨a, c, cA, kA, q1, -⟩ := Cond.exactly_spec (args := #[Value.ref b]) (first := s) (o := none) (s := s) (idx := []) (t := .string "BookmobileRadio" 178) (cls := "java/lang/String") h1
  exact ⟨a, vk_R.of (A := #[Value.ref b]) (htb _ wt_x178) q1⟩
theorem sx_204 (htb : ∀ w ∈ tables_1, w.before #[Value.ref b] s = true) (hgv : (Jvm.Cond.and given_1 narrow_1).before #[Value.ref b] s = true) : ∃ sa, vk_R "BookmobileRadio" 204 "no such property" sa s := by
  have hs := flat_of_before _ hgv
  have h1 : (Cond.exactly (.string "BookmobileRadio" 204) "java/lang/String").before #[Value.ref b] s = true := hs _ (by decide +kernel)
  obtain ⟨a, c, cA, kA, q1, -⟩ := Cond.exactly_spec (args := #[Value.ref b]) (first := s) (o := none) (s := s) (idx := []) (t := .string "BookmobileRadio" 204) (cls := "java/lang/String") h1
  exact ⟨a, vk_R.of (A := #[Value.ref b]) (htb _ wt_x204) q1⟩
theorem sx_422 (htb : ∀ w ∈ tables_1, w.before #[Value.ref b] s = true) (hgv : (Jvm.Cond.and given_1 narrow_1).before #[Value.ref b] s = true) : ∃ sa, vk_R "BookmobileRadio" 422 "no such correction" sa s := by
  have hs := flat_of_before _ hgv
  have h1 : (Cond.exactly (.string "BookmobileRadio" 422) "java/lang/String").before #[Value.ref b] s = true := hs _ (by decide +kernel)
  obtain ⟨a, c, cA, kA, q1, -⟩ := Cond.exactly_spec (args := #[Value.ref b]) (first := s) (o := none) (s := s) (idx := []) (t := .string "BookmobileRadio" 422) (cls := "java/lang/String") h1
  exact ⟨a, vk_R.of (A := #[Value.ref b]) (htb _ wt_x422) q1⟩
theorem sx_351 (htb : ∀ w ∈ tables_1, w.before #[Value.ref b] s = true) (hgv : (Jvm.Cond.and given_1 narrow_1).before #[Value.ref b] s = true) : ∃ sa, vk_R "BookmobileRadio" 351 "not so many bytes in the text" sa s := by
  have hs := flat_of_before _ hgv
  have h1 : (Cond.exactly (.string "BookmobileRadio" 351) "java/lang/String").before #[Value.ref b] s = true := hs _ (by decide +kernel)
  obtain ⟨a, c, cA, kA, q1, -⟩ := Cond.exactly_spec (args := #[Value.ref b]) (first := s) (o := none) (s := s) (idx := []) (t := .string "BookmobileRadio" 351) (cls := "java/lang/String") h1
  exact ⟨a, vk_R.of (A := #[Value.ref b]) (htb _ wt_x351) q1⟩
theorem sx_424 (htb : ∀ w ∈ tables_1, w.before #[Value.ref b] s = true) (hgv : (Jvm.Cond.and given_1 narrow_1).before #[Value.ref b] s = true) : ∃ sa, vk_R "BookmobileRadio" 424 "no number is left" sa s := by
  have hs := flat_of_before _ hgv
  have h1 : (Cond.exactly (.string "BookmobileRadio" 424) "java/lang/String").before #[Value.ref b] s = true := hs _ (by decide +kernel)
  obtain ⟨a, c, cA, kA, q1, -⟩ := Cond.exactly_spec (args := #[Value.ref b]) (first := s) (o := none) (s := s) (idx := []) (t := .string "BookmobileRadio" 424) (cls := "java/lang/String") h1
  exact ⟨a, vk_R.of (A := #[Value.ref b]) (htb _ wt_x424) q1⟩
theorem sx_429 (htb : ∀ w ∈ tables_1, w.before #[Value.ref b] s = true) (hgv : (Jvm.Cond.and given_1 narrow_1).before #[Value.ref b] s = true) : ∃ sa, vk_R "BookmobileRadio" 429 "no room on the air" sa s := by
  have hs := flat_of_before _ hgv
  have h1 : (Cond.exactly (.string "BookmobileRadio" 429) "java/lang/String").before #[Value.ref b] s = true := hs _ (by decide +kernel)
  obtain ⟨a, c, cA, kA, q1, -⟩ := Cond.exactly_spec (args := #[Value.ref b]) (first := s) (o := none) (s := s) (idx := []) (t := .string "BookmobileRadio" 429) (cls := "java/lang/String") h1
  exact ⟨a, vk_R.of (A := #[Value.ref b]) (htb _ wt_x429) q1⟩
theorem sx_384 (htb : ∀ w ∈ tables_1, w.before #[Value.ref b] s = true) (hgv : (Jvm.Cond.and given_1 narrow_1).before #[Value.ref b] s = true) : ∃ sa, vk_R "BookmobileRadio" 384 "the listener has its gaps" sa s := by
  have hs := flat_of_before _ hgv
  have h1 : (Cond.exactly (.string "BookmobileRadio" 384) "java/lang/String").before #[Value.ref b] s = true := hs _ (by decide +kernel)
  obtain ⟨a, c, cA, kA, q1, -⟩ := Cond.exactly_spec (args := #[Value.ref b]) (first := s) (o := none) (s := s) (idx := []) (t := .string "BookmobileRadio" 384) (cls := "java/lang/String") h1
  exact ⟨a, vk_R.of (A := #[Value.ref b]) (htb _ wt_x384) q1⟩
theorem sx_389 (htb : ∀ w ∈ tables_1, w.before #[Value.ref b] s = true) (hgv : (Jvm.Cond.and given_1 narrow_1).before #[Value.ref b] s = true) : ∃ sa, vk_R "BookmobileRadio" 389 "no such gap" sa s := by
  have hs := flat_of_before _ hgv
  have h1 : (Cond.exactly (.string "BookmobileRadio" 389) "java/lang/String").before #[Value.ref b] s = true := hs _ (by decide +kernel)
  obtain ⟨a, c, cA, kA, q1, -⟩ := Cond.exactly_spec (args := #[Value.ref b]) (first := s) (o := none) (s := s) (idx := []) (t := .string "BookmobileRadio" 389) (cls := "java/lang/String") h1
  exact ⟨a, vk_R.of (A := #[Value.ref b]) (htb _ wt_x389) q1⟩
theorem sx_401 (htb : ∀ w ∈ tables_1, w.before #[Value.ref b] s = true) (hgv : (Jvm.Cond.and given_1 narrow_1).before #[Value.ref b] s = true) : ∃ sa, vk_R "BookmobileRadio" 401 "no change is left to undo" sa s := by
  have hs := flat_of_before _ hgv
  have h1 : (Cond.exactly (.string "BookmobileRadio" 401) "java/lang/String").before #[Value.ref b] s = true := hs _ (by decide +kernel)
  obtain ⟨a, c, cA, kA, q1, -⟩ := Cond.exactly_spec (args := #[Value.ref b]) (first := s) (o := none) (s := s) (idx := []) (t := .string "BookmobileRadio" 401) (cls := "java/lang/String") h1
  exact ⟨a, vk_R.of (A := #[Value.ref b]) (htb _ wt_x401) q1⟩
theorem sx_418 (htb : ∀ w ∈ tables_1, w.before #[Value.ref b] s = true) (hgv : (Jvm.Cond.and given_1 narrow_1).before #[Value.ref b] s = true) : ∃ sa, vk_R "BookmobileRadio" 418 "no such slot for saving" sa s := by
  have hs := flat_of_before _ hgv
  have h1 : (Cond.exactly (.string "BookmobileRadio" 418) "java/lang/String").before #[Value.ref b] s = true := hs _ (by decide +kernel)
  obtain ⟨a, c, cA, kA, q1, -⟩ := Cond.exactly_spec (args := #[Value.ref b]) (first := s) (o := none) (s := s) (idx := []) (t := .string "BookmobileRadio" 418) (cls := "java/lang/String") h1
  exact ⟨a, vk_R.of (A := #[Value.ref b]) (htb _ wt_x418) q1⟩
theorem sx_410 (htb : ∀ w ∈ tables_1, w.before #[Value.ref b] s = true) (hgv : (Jvm.Cond.and given_1 narrow_1).before #[Value.ref b] s = true) : ∃ sa, vk_R "BookmobileRadio" 410 "nothing is saved there" sa s := by
  have hs := flat_of_before _ hgv
  have h1 : (Cond.exactly (.string "BookmobileRadio" 410) "java/lang/String").before #[Value.ref b] s = true := hs _ (by decide +kernel)
  obtain ⟨a, c, cA, kA, q1, -⟩ := Cond.exactly_spec (args := #[Value.ref b]) (first := s) (o := none) (s := s) (idx := []) (t := .string "BookmobileRadio" 410) (cls := "java/lang/String") h1
  exact ⟨a, vk_R.of (A := #[Value.ref b]) (htb _ wt_x410) q1⟩
end STW
