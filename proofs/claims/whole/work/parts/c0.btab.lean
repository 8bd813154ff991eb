/-! ===== words that are in the table (by wip/whole/spec/gen_world.py) ===== -/
set_option maxRecDepth 100000 in
theorem x_B_tab : ∀ w ∈ x_B, w ∈ tables_1 := List.forall_mem_cons.mpr ⟨List.mem_of_getElem? (i := 425) rfl, List.forall_mem_cons.mpr ⟨List.mem_of_getElem? (i := 616) rfl, List.forall_mem_cons.mpr ⟨List.mem_of_getElem? (i := 674) rfl, List.forall_mem_cons.mpr ⟨List.mem_of_getElem? (i := 426) rfl, List.forall_mem_cons.mpr ⟨List.mem_of_getElem? (i := 427) rfl, List.forall_mem_cons.mpr ⟨List.mem_of_getElem? (i := 428) rfl, List.forall_mem_cons.mpr ⟨List.mem_of_getElem? (i := 429) rfl, List.forall_mem_cons.mpr ⟨List.mem_of_getElem? (i := 430) rfl, List.forall_mem_cons.mpr ⟨List.mem_of_getElem? (i := 431) rfl, List.forall_mem_cons.mpr ⟨List.mem_of_getElem? (i := 36) rfl, List.forall_mem_cons.mpr ⟨List.mem_of_getElem? (i := 86) rfl, List.forall_mem_cons.mpr ⟨List.mem_of_getElem? (i := 140) rfl, List.forall_mem_cons.mpr ⟨List.mem_of_getElem? (i := 197) rfl, List.forall_mem_cons.mpr ⟨List.mem_of_getElem? (i := 312) rfl, List.forall_mem_cons.mpr ⟨List.mem_of_getElem? (i := 345) rfl, fun _ h => absurd h List.not_mem_nil⟩⟩⟩⟩⟩⟩⟩⟩⟩⟩⟩⟩⟩⟩⟩
set_option maxRecDepth 100000 in
theorem wt_s0 : Jvm.Cond.stringRef "BookmobileRadio$Reader" 42 "radio" ∈ tables_1 := List.mem_of_getElem? (i := 521) rfl
set_option maxRecDepth 100000 in
theorem wt_s1 : Jvm.Cond.stringRef "BookmobileRadio$Reader" 65 "stop" ∈ tables_1 := List.mem_of_getElem? (i := 590) rfl
set_option maxRecDepth 100000 in
theorem wt_s2 : Jvm.Cond.stringRef "BookmobileRadio$Reader" 94 "hears" ∈ tables_1 := List.mem_of_getElem? (i := 600) rfl
set_option maxRecDepth 100000 in
theorem wt_s3 : Jvm.Cond.stringRef "BookmobileRadio$Reader" 106 "off" ∈ tables_1 := List.mem_of_getElem? (i := 605) rfl
set_option maxRecDepth 100000 in
theorem wt_s4 : Jvm.Cond.stringRef "BookmobileRadioModel" 153 "off" ∈ tables_1 := List.mem_of_getElem? (i := 1512) rfl
set_option maxRecDepth 100000 in
theorem wt_s5 : Jvm.Cond.stringRef "BookmobileRadioModel" 159 "radio" ∈ tables_1 := List.mem_of_getElem? (i := 1475) rfl
set_option maxRecDepth 100000 in
theorem wt_s6 : Jvm.Cond.stringRef "BookmobileRadioModel" 161 "stop" ∈ tables_1 := List.mem_of_getElem? (i := 1498) rfl
set_option maxRecDepth 100000 in
theorem wt_s7 : Jvm.Cond.stringRef "BookmobileRadioModel" 166 "hears" ∈ tables_1 := List.mem_of_getElem? (i := 1503) rfl
set_option maxRecDepth 100000 in
theorem wt_x69 : Jvm.Cond.stringRef "BookmobileRadio" 69 "not so many bytes in the buffer" ∈ tables_1 := List.mem_of_getElem? (i := 464) rfl
set_option maxRecDepth 100000 in
theorem wt_x80 : Jvm.Cond.stringRef "BookmobileRadio" 80 "the text has an error" ∈ tables_1 := List.mem_of_getElem? (i := 623) rfl
set_option maxRecDepth 100000 in
theorem wt_x412 : Jvm.Cond.stringRef "BookmobileRadio" 412 "no text was loaded" ∈ tables_1 := List.mem_of_getElem? (i := 681) rfl
set_option maxRecDepth 100000 in
theorem wt_x155 : Jvm.Cond.stringRef "BookmobileRadio" 155 "no such count" ∈ tables_1 := List.mem_of_getElem? (i := 732) rfl
set_option maxRecDepth 100000 in
theorem wt_x414 : Jvm.Cond.stringRef "BookmobileRadio" 414 "no such listener" ∈ tables_1 := List.mem_of_getElem? (i := 748) rfl
set_option maxRecDepth 100000 in
theorem wt_x416 : Jvm.Cond.stringRef "BookmobileRadio" 416 "no such slot" ∈ tables_1 := List.mem_of_getElem? (i := 753) rfl
set_option maxRecDepth 100000 in
theorem wt_x420 : Jvm.Cond.stringRef "BookmobileRadio" 420 "out of range" ∈ tables_1 := List.mem_of_getElem? (i := 758) rfl
set_option maxRecDepth 100000 in
theorem wt_x178 : Jvm.Cond.stringRef "BookmobileRadio" 178 "not so many on the air" ∈ tables_1 := List.mem_of_getElem? (i := 775) rfl
set_option maxRecDepth 100000 in
theorem wt_x204 : Jvm.Cond.stringRef "BookmobileRadio" 204 "no such property" ∈ tables_1 := List.mem_of_getElem? (i := 788) rfl
set_option maxRecDepth 100000 in
theorem wt_x422 : Jvm.Cond.stringRef "BookmobileRadio" 422 "no such correction" ∈ tables_1 := List.mem_of_getElem? (i := 800) rfl
set_option maxRecDepth 100000 in
theorem wt_x351 : Jvm.Cond.stringRef "BookmobileRadio" 351 "not so many bytes in the text" ∈ tables_1 := List.mem_of_getElem? (i := 1190) rfl
set_option maxRecDepth 100000 in
theorem wt_x424 : Jvm.Cond.stringRef "BookmobileRadio" 424 "no number is left" ∈ tables_1 := List.mem_of_getElem? (i := 1202) rfl
set_option maxRecDepth 100000 in
theorem wt_x429 : Jvm.Cond.stringRef "BookmobileRadio" 429 "no room on the air" ∈ tables_1 := List.mem_of_getElem? (i := 1208) rfl
set_option maxRecDepth 100000 in
theorem wt_x384 : Jvm.Cond.stringRef "BookmobileRadio" 384 "the listener has its gaps" ∈ tables_1 := List.mem_of_getElem? (i := 1266) rfl
set_option maxRecDepth 100000 in
theorem wt_x389 : Jvm.Cond.stringRef "BookmobileRadio" 389 "no such gap" ∈ tables_1 := List.mem_of_getElem? (i := 1275) rfl
set_option maxRecDepth 100000 in
theorem wt_x401 : Jvm.Cond.stringRef "BookmobileRadio" 401 "no change is left to undo" ∈ tables_1 := List.mem_of_getElem? (i := 1312) rfl
set_option maxRecDepth 100000 in
theorem wt_x418 : Jvm.Cond.stringRef "BookmobileRadio" 418 "no such slot for saving" ∈ tables_1 := List.mem_of_getElem? (i := 1328) rfl
set_option maxRecDepth 100000 in
theorem wt_x410 : Jvm.Cond.stringRef "BookmobileRadio" 410 "nothing is saved there" ∈ tables_1 := List.mem_of_getElem? (i := 1336) rfl
set_option maxRecDepth 100000 in
theorem wt_oSignal : Jvm.Cond.arrayOver (.object "BookmobileRadio$Signal") ∈ tables_1 := List.mem_of_getElem? (i := 138) rfl
set_option maxRecDepth 100000 in
theorem wt_oListener : Jvm.Cond.arrayOver (.object "BookmobileRadio$Listener") ∈ tables_1 := List.mem_of_getElem? (i := 195) rfl
set_option maxRecDepth 100000 in
theorem wt_oRadio : Jvm.Cond.arrayOver (.object "BookmobileRadio$Radio") ∈ tables_1 := List.mem_of_getElem? (i := 297) rfl
set_option maxRecDepth 100000 in
theorem wt_l0 : Jvm.Cond.laysStatic "java/lang/String" "COMPACT_STRINGS" "Z" ∈ tables_1 := List.mem_of_getElem? (i := 539) rfl
set_option maxRecDepth 100000 in
theorem wt_i0 : Jvm.Cond.initialized "java/lang/String" ∈ tables_1 := List.mem_of_getElem? (i := 16) rfl
set_option maxRecDepth 100000 in
theorem wt_l1 : Jvm.Cond.laysStatic "jdk/internal/util/Preconditions" "SIOOBE_FORMATTER" "Ljava/util/function/BiFunction;" ∈ tables_1 := List.mem_of_getElem? (i := 555) rfl
set_option maxRecDepth 100000 in
theorem wt_i1 : Jvm.Cond.initialized "jdk/internal/util/Preconditions" ∈ tables_1 := List.mem_of_getElem? (i := 18) rfl
set_option maxRecDepth 100000 in
theorem wt_l2 : Jvm.Cond.laysStatic "java/lang/Throwable" "UNASSIGNED_STACK" "[Ljava/lang/StackTraceElement;" ∈ tables_1 := List.mem_of_getElem? (i := 450) rfl
set_option maxRecDepth 100000 in
theorem wt_i2 : Jvm.Cond.initialized "java/lang/Throwable" ∈ tables_1 := List.mem_of_getElem? (i := 12) rfl
set_option maxRecDepth 100000 in
theorem wt_l3 : Jvm.Cond.laysStatic "java/lang/Throwable" "SUPPRESSED_SENTINEL" "Ljava/util/List;" ∈ tables_1 := List.mem_of_getElem? (i := 452) rfl
set_option maxRecDepth 100000 in
theorem wt_i3 : Jvm.Cond.initialized "java/lang/Throwable" ∈ tables_1 := List.mem_of_getElem? (i := 12) rfl
