set_option maxRecDepth 100000 in
theorem nr_3 {A : Array Value} {s : State} (h : (Jvm.Cond.and given_1 narrow_1).before A s = true) : (Jvm.Cond.arrayOf (Jvm.Term.static "java/util/ArrayList" "DEFAULTCAPACITY_EMPTY_ELEMENTDATA" "[Ljava/lang/Object;") (Jvm.ClassFile.FieldType.object "java/lang/Object")).before A s = true := flat_of_before _ h _ (List.mem_of_getElem? (i := 5) (by decide +kernel))
set_option maxRecDepth 100000 in
theorem nr_5 {A : Array Value} {s : State} (h : (Jvm.Cond.and given_1 narrow_1).before A s = true) : (Jvm.Cond.eq (Jvm.Term.length (Jvm.Term.static "java/util/ArrayList" "DEFAULTCAPACITY_EMPTY_ELEMENTDATA" "[Ljava/lang/Object;")) (Jvm.Term.int (0 : Int32))).before A s = true := flat_of_before _ h _ (List.mem_of_getElem? (i := 7) (by decide +kernel))
set_option maxRecDepth 100000 in
theorem nr_6 {A : Array Value} {s : State} (h : (Jvm.Cond.and given_1 narrow_1).before A s = true) : (Jvm.Cond.isRef (Jvm.Term.static "java/lang/Throwable" "UNASSIGNED_STACK" "[Ljava/lang/StackTraceElement;")).before A s = true := flat_of_before _ h _ (List.mem_of_getElem? (i := 8) (by decide +kernel))
set_option maxRecDepth 100000 in
theorem nr_7 {A : Array Value} {s : State} (h : (Jvm.Cond.and given_1 narrow_1).before A s = true) : (Jvm.Cond.isRef (Jvm.Term.static "java/lang/Throwable" "SUPPRESSED_SENTINEL" "Ljava/util/List;")).before A s = true := flat_of_before _ h _ (List.mem_of_getElem? (i := 9) (by decide +kernel))
set_option maxRecDepth 100000 in
theorem nr_62 {A : Array Value} {s : State} (h : (Jvm.Cond.and given_1 narrow_1).before A s = true) : (Jvm.Cond.isRef (Jvm.Term.mirror "[Ljava/lang/Object;")).before A s = true := flat_of_before _ h _ (List.mem_of_getElem? (i := 64) (by decide +kernel))
set_option maxRecDepth 100000 in
theorem nr_63 {A : Array Value} {s : State} (h : (Jvm.Cond.and given_1 narrow_1).before A s = true) : (Jvm.Cond.exactly (Jvm.Term.string "LanternDesk" (52 : Nat)) "java/lang/String").before A s = true := flat_of_before _ h _ (List.mem_of_getElem? (i := 65) (by decide +kernel))
set_option maxRecDepth 100000 in
theorem nr_81 {A : Array Value} {s : State} (h : (Jvm.Cond.and given_1 narrow_1).before A s = true) : (Jvm.Cond.exactly (Jvm.Term.string "LanternDesk" (59 : Nat)) "java/lang/String").before A s = true := flat_of_before _ h _ (List.mem_of_getElem? (i := 83) (by decide +kernel))
set_option maxRecDepth 100000 in
theorem nr_104 {A : Array Value} {s : State} (h : (Jvm.Cond.and given_1 narrow_1).before A s = true) : (Jvm.Cond.exactly (Jvm.Term.string "LanternDesk" (68 : Nat)) "java/lang/String").before A s = true := flat_of_before _ h _ (List.mem_of_getElem? (i := 106) (by decide +kernel))
set_option maxRecDepth 100000 in
theorem nr_137 {A : Array Value} {s : State} (h : (Jvm.Cond.and given_1 narrow_1).before A s = true) : (Jvm.Cond.exactly (Jvm.Term.string "LanternDesk" (71 : Nat)) "java/lang/String").before A s = true := flat_of_before _ h _ (List.mem_of_getElem? (i := 139) (by decide +kernel))
set_option maxRecDepth 100000 in
theorem nr_162 {A : Array Value} {s : State} (h : (Jvm.Cond.and given_1 narrow_1).before A s = true) : (Jvm.Cond.exactly (Jvm.Term.string "LanternDesk" (80 : Nat)) "java/lang/String").before A s = true := flat_of_before _ h _ (List.mem_of_getElem? (i := 164) (by decide +kernel))
set_option maxRecDepth 100000 in
theorem nr_183 {A : Array Value} {s : State} (h : (Jvm.Cond.and given_1 narrow_1).before A s = true) : (Jvm.Cond.exactly (Jvm.Term.string "LanternDesk" (82 : Nat)) "java/lang/String").before A s = true := flat_of_before _ h _ (List.mem_of_getElem? (i := 185) (by decide +kernel))
set_option maxRecDepth 100000 in
theorem nr_209 {A : Array Value} {s : State} (h : (Jvm.Cond.and given_1 narrow_1).before A s = true) : (Jvm.Cond.exactly (Jvm.Term.string "LanternDesk" (96 : Nat)) "java/lang/String").before A s = true := flat_of_before _ h _ (List.mem_of_getElem? (i := 211) (by decide +kernel))
set_option maxRecDepth 100000 in
theorem nr_233 {A : Array Value} {s : State} (h : (Jvm.Cond.and given_1 narrow_1).before A s = true) : (Jvm.Cond.exactly (Jvm.Term.string "LanternDesk" (105 : Nat)) "java/lang/String").before A s = true := flat_of_before _ h _ (List.mem_of_getElem? (i := 235) (by decide +kernel))
set_option maxRecDepth 100000 in
theorem nr_266 {A : Array Value} {s : State} (h : (Jvm.Cond.and given_1 narrow_1).before A s = true) : (Jvm.Cond.exactly (Jvm.Term.string "LanternDesk" (110 : Nat)) "java/lang/String").before A s = true := flat_of_before _ h _ (List.mem_of_getElem? (i := 268) (by decide +kernel))
set_option maxRecDepth 100000 in
theorem nr_299 {A : Array Value} {s : State} (h : (Jvm.Cond.and given_1 narrow_1).before A s = true) : (Jvm.Cond.exactly (Jvm.Term.string "LanternDesk" (115 : Nat)) "java/lang/String").before A s = true := flat_of_before _ h _ (List.mem_of_getElem? (i := 301) (by decide +kernel))
set_option maxRecDepth 100000 in
theorem nr_342 {A : Array Value} {s : State} (h : (Jvm.Cond.and given_1 narrow_1).before A s = true) : (Jvm.Cond.exactly (Jvm.Term.string "LanternDesk" (126 : Nat)) "java/lang/String").before A s = true := flat_of_before _ h _ (List.mem_of_getElem? (i := 344) (by decide +kernel))
set_option maxRecDepth 100000 in
theorem nr_376 {A : Array Value} {s : State} (h : (Jvm.Cond.and given_1 narrow_1).before A s = true) : (Jvm.Cond.exactly (Jvm.Term.string "LanternDesk" (128 : Nat)) "java/lang/String").before A s = true := flat_of_before _ h _ (List.mem_of_getElem? (i := 378) (by decide +kernel))
set_option maxRecDepth 100000 in
theorem nr_418 {A : Array Value} {s : State} (h : (Jvm.Cond.and given_1 narrow_1).before A s = true) : (Jvm.Cond.exactly (Jvm.Term.string "LanternDesk" (140 : Nat)) "java/lang/String").before A s = true := flat_of_before _ h _ (List.mem_of_getElem? (i := 420) (by decide +kernel))
set_option maxRecDepth 100000 in
theorem nr_452 {A : Array Value} {s : State} (h : (Jvm.Cond.and given_1 narrow_1).before A s = true) : (Jvm.Cond.exactly (Jvm.Term.string "LanternDesk" (142 : Nat)) "java/lang/String").before A s = true := flat_of_before _ h _ (List.mem_of_getElem? (i := 454) (by decide +kernel))
set_option maxRecDepth 100000 in
theorem nr_487 {A : Array Value} {s : State} (h : (Jvm.Cond.and given_1 narrow_1).before A s = true) : (Jvm.Cond.exactly (Jvm.Term.string "LanternDesk" (152 : Nat)) "java/lang/String").before A s = true := flat_of_before _ h _ (List.mem_of_getElem? (i := 489) (by decide +kernel))
set_option maxRecDepth 100000 in
theorem nr_517 {A : Array Value} {s : State} (h : (Jvm.Cond.and given_1 narrow_1).before A s = true) : (Jvm.Cond.exactly (Jvm.Term.string "LanternDesk" (161 : Nat)) "java/lang/String").before A s = true := flat_of_before _ h _ (List.mem_of_getElem? (i := 519) (by decide +kernel))
set_option maxRecDepth 100000 in
theorem nr_556 {A : Array Value} {s : State} (h : (Jvm.Cond.and given_1 narrow_1).before A s = true) : (Jvm.Cond.exactly (Jvm.Term.string "LanternDesk" (166 : Nat)) "java/lang/String").before A s = true := flat_of_before _ h _ (List.mem_of_getElem? (i := 558) (by decide +kernel))
set_option maxRecDepth 100000 in
theorem nr_24 {A : Array Value} {s : State} (h : (Jvm.Cond.and given_1 narrow_1).before A s = true) : (Jvm.Cond.not (Jvm.Cond.castable "java/lang/IndexOutOfBoundsException" "java/lang/IllegalArgumentException")).before A s = true := flat_of_before _ h _ (List.mem_of_getElem? (i := 26) (by decide +kernel))
set_option maxRecDepth 100000 in
theorem nr_34 {A : Array Value} {s : State} (h : (Jvm.Cond.and given_1 narrow_1).before A s = true) : (Jvm.Cond.not (Jvm.Cond.castable "java/lang/IndexOutOfBoundsException" "java/lang/IllegalStateException")).before A s = true := flat_of_before _ h _ (List.mem_of_getElem? (i := 36) (by decide +kernel))
set_option maxRecDepth 100000 in
theorem nr_14 {A : Array Value} {s : State} (h : (Jvm.Cond.and given_1 narrow_1).before A s = true) : (Jvm.Cond.not (Jvm.Cond.castable "java/lang/IllegalArgumentException" "java/lang/IndexOutOfBoundsException")).before A s = true := flat_of_before _ h _ (List.mem_of_getElem? (i := 16) (by decide +kernel))
set_option maxRecDepth 100000 in
theorem nr_35 {A : Array Value} {s : State} (h : (Jvm.Cond.and given_1 narrow_1).before A s = true) : (Jvm.Cond.not (Jvm.Cond.castable "java/lang/IllegalArgumentException" "java/lang/IllegalStateException")).before A s = true := flat_of_before _ h _ (List.mem_of_getElem? (i := 37) (by decide +kernel))
set_option maxRecDepth 100000 in
theorem nr_15 {A : Array Value} {s : State} (h : (Jvm.Cond.and given_1 narrow_1).before A s = true) : (Jvm.Cond.not (Jvm.Cond.castable "java/lang/IllegalStateException" "java/lang/IndexOutOfBoundsException")).before A s = true := flat_of_before _ h _ (List.mem_of_getElem? (i := 17) (by decide +kernel))
set_option maxRecDepth 100000 in
theorem nr_25 {A : Array Value} {s : State} (h : (Jvm.Cond.and given_1 narrow_1).before A s = true) : (Jvm.Cond.not (Jvm.Cond.castable "java/lang/IllegalStateException" "java/lang/IllegalArgumentException")).before A s = true := flat_of_before _ h _ (List.mem_of_getElem? (i := 27) (by decide +kernel))
set_option maxRecDepth 100000 in
theorem k_NF {s : State} {b : Nat} (hts : ∀ w ∈ lw_tbl, w.before #[Value.ref b] s = true) : ∀ q ∈ NF, va_Nw (.fieldLinkNest q.1 q.2.1 q.2.2.1 q.2.2.2.1 q.2.2.2.2.1 q.2.2.2.2.2) s := List.forall_mem_cons.mpr ⟨va_Nw.of rfl (hts _ (tb_1 _ (List.mem_of_getElem? (i := 82) (by decide +kernel)))), List.forall_mem_cons.mpr ⟨va_Nw.of rfl (hts _ (tb_1 _ (List.mem_of_getElem? (i := 84) (by decide +kernel)))), List.forall_mem_cons.mpr ⟨va_Nw.of rfl (hts _ (tb_1 _ (List.mem_of_getElem? (i := 86) (by decide +kernel)))), List.forall_mem_cons.mpr ⟨va_Nw.of rfl (hts _ (tb_1 _ (List.mem_of_getElem? (i := 104) (by decide +kernel)))), List.forall_mem_cons.mpr ⟨va_Nw.of rfl (hts _ (tb_1 _ (List.mem_of_getElem? (i := 106) (by decide +kernel)))), List.forall_mem_cons.mpr ⟨va_Nw.of rfl (hts _ (tb_1 _ (List.mem_of_getElem? (i := 108) (by decide +kernel)))), List.forall_mem_cons.mpr ⟨va_Nw.of rfl (hts _ (tb_1 _ (List.mem_of_getElem? (i := 110) (by decide +kernel)))), List.forall_mem_cons.mpr ⟨va_Nw.of rfl (hts _ (tb_2 _ (List.mem_of_getElem? (i := 110) (by decide +kernel)))), List.forall_mem_cons.mpr ⟨va_Nw.of rfl (hts _ (tb_2 _ (List.mem_of_getElem? (i := 112) (by decide +kernel)))), List.forall_mem_cons.mpr ⟨va_Nw.of rfl (hts _ (tb_2 _ (List.mem_of_getElem? (i := 114) (by decide +kernel)))), List.forall_mem_cons.mpr ⟨va_Nw.of rfl (hts _ (tb_2 _ (List.mem_of_getElem? (i := 116) (by decide +kernel)))), List.forall_mem_cons.mpr ⟨va_Nw.of rfl (hts _ (tb_2 _ (List.mem_of_getElem? (i := 118) (by decide +kernel)))), List.forall_mem_cons.mpr ⟨va_Nw.of rfl (hts _ (tb_2 _ (List.mem_of_getElem? (i := 120) (by decide +kernel)))), List.forall_mem_cons.mpr ⟨va_Nw.of rfl (hts _ (tb_2 _ (List.mem_of_getElem? (i := 122) (by decide +kernel)))), List.forall_mem_cons.mpr ⟨va_Nw.of rfl (hts _ (tb_3 _ (List.mem_of_getElem? (i := 33) (by decide +kernel)))), fun _ h => absurd h List.not_mem_nil⟩⟩⟩⟩⟩⟩⟩⟩⟩⟩⟩⟩⟩⟩⟩
set_option maxRecDepth 100000 in
theorem k_NM {s : State} {b : Nat} (hts : ∀ w ∈ lw_tbl, w.before #[Value.ref b] s = true) : ∀ q ∈ NM, va_Nw (.methodLinkNest q.1 q.2.1 q.2.2.1 q.2.2.2) s := List.forall_mem_cons.mpr ⟨va_Nw.of rfl (hts _ (tb_1 _ (List.mem_of_getElem? (i := 63) (by decide +kernel)))), fun _ h => absurd h List.not_mem_nil⟩
set_option maxRecDepth 100000 in
theorem k_NX {s : State} {b : Nat} (hts : ∀ w ∈ lw_tbl, w.before #[Value.ref b] s = true) : ∀ q ∈ NX, va_Nw (.castable q.1 q.2) s := List.forall_mem_cons.mpr ⟨va_Nw.of rfl (hts _ (tb_1 _ (List.mem_of_getElem? (i := 188) (by decide +kernel)))), List.forall_mem_cons.mpr ⟨va_Nw.of rfl (hts _ (tb_2 _ (List.mem_of_getElem? (i := 16) (by decide +kernel)))), List.forall_mem_cons.mpr ⟨va_Nw.of rfl (hts _ (tb_2 _ (List.mem_of_getElem? (i := 33) (by decide +kernel)))), List.forall_mem_cons.mpr ⟨va_Nw.of rfl (hts _ (tb_4 _ (List.mem_of_getElem? (i := 137) (by decide +kernel)))), List.forall_mem_cons.mpr ⟨va_Nw.of rfl (hts _ (tb_4 _ (List.mem_of_getElem? (i := 138) (by decide +kernel)))), fun _ h => absurd h List.not_mem_nil⟩⟩⟩⟩⟩
set_option maxRecDepth 100000 in
theorem k_ND {s : State} {b : Nat} (hts : ∀ w ∈ lw_tbl, w.before #[Value.ref b] s = true) : ∀ z ∈ ND, va_Nw (.declares z) s := List.forall_mem_cons.mpr ⟨va_Nw.of rfl (hts _ (tb_1 _ (List.mem_of_getElem? (i := 189) (by decide +kernel)))), List.forall_mem_cons.mpr ⟨va_Nw.of rfl (hts _ (tb_1 _ (List.mem_of_getElem? (i := 190) (by decide +kernel)))), List.forall_mem_cons.mpr ⟨va_Nw.of rfl (hts _ (tb_1 _ (List.mem_of_getElem? (i := 191) (by decide +kernel)))), List.forall_mem_cons.mpr ⟨va_Nw.of rfl (hts _ (tb_1 _ (List.mem_of_getElem? (i := 192) (by decide +kernel)))), List.forall_mem_cons.mpr ⟨va_Nw.of rfl (hts _ (tb_1 _ (List.mem_of_getElem? (i := 193) (by decide +kernel)))), List.forall_mem_cons.mpr ⟨va_Nw.of rfl (hts _ (tb_1 _ (List.mem_of_getElem? (i := 194) (by decide +kernel)))), List.forall_mem_cons.mpr ⟨va_Nw.of rfl (hts _ (tb_4 _ (List.mem_of_getElem? (i := 143) (by decide +kernel)))), fun _ h => absurd h List.not_mem_nil⟩⟩⟩⟩⟩⟩⟩
set_option maxRecDepth 100000 in
theorem k_AO {s : State} {b : Nat} (hts : ∀ w ∈ lw_tbl, w.before #[Value.ref b] s = true) : ∀ C ∈ AOL, va_AO C s := List.forall_mem_cons.mpr ⟨va_AO.of (hts _ (tb_1 _ (List.mem_of_getElem? (i := 32) (by decide +kernel)))), List.forall_mem_cons.mpr ⟨va_AO.of (hts _ (tb_1 _ (List.mem_of_getElem? (i := 34) (by decide +kernel)))), List.forall_mem_cons.mpr ⟨va_AO.of (hts _ (tb_2 _ (List.mem_of_getElem? (i := 184) (by decide +kernel)))), fun _ h => absurd h List.not_mem_nil⟩⟩⟩
set_option maxRecDepth 100000 in
theorem k_NO {s : State} {A : Array Value} (h : (Jvm.Cond.and given_1 narrow_1).before A s = true) : ∀ q ∈ NO, va_Nc q.1 q.2 s := List.forall_mem_cons.mpr ⟨va_Nc.of (nr_24 h), List.forall_mem_cons.mpr ⟨va_Nc.of (nr_34 h), List.forall_mem_cons.mpr ⟨va_Nc.of (nr_14 h), List.forall_mem_cons.mpr ⟨va_Nc.of (nr_35 h), List.forall_mem_cons.mpr ⟨va_Nc.of (nr_15 h), List.forall_mem_cons.mpr ⟨va_Nc.of (nr_25 h), fun _ h => absurd h List.not_mem_nil⟩⟩⟩⟩⟩⟩
theorem k_str {own tx : String} {k : Nat} {s : State} {A : Array Value} (h1 : (Cond.stringRef own k tx).before A s = true) (h2 : (Cond.exactly (.string own k) "java/lang/String").before A s = true) : ∃ a : Nat, vk_R own k tx a s := by
  obtain ⟨a, c, cell, k9, g1, -⟩ := Cond.exactly_spec h2
  exact ⟨a, vk_R.of h1 g1⟩
set_option maxRecDepth 100000 in
theorem k_SL {s : State} {b : Nat} (hts : ∀ w ∈ lw_tbl, w.before #[Value.ref b] s = true) (h : (Jvm.Cond.and given_1 narrow_1).before #[Value.ref b] s = true) : ∀ q ∈ SL, ∃ a : Nat, vk_R q.1 q.2.1 q.2.2 a s := List.forall_mem_cons.mpr ⟨k_str (hts _ (tb_1 _ (List.mem_of_getElem? (i := 227) (by decide +kernel)))) (nr_63 h), List.forall_mem_cons.mpr ⟨k_str (hts _ (tb_2 _ (List.mem_of_getElem? (i := 23) (by decide +kernel)))) (nr_81 h), List.forall_mem_cons.mpr ⟨k_str (hts _ (tb_2 _ (List.mem_of_getElem? (i := 40) (by decide +kernel)))) (nr_104 h), List.forall_mem_cons.mpr ⟨k_str (hts _ (tb_2 _ (List.mem_of_getElem? (i := 54) (by decide +kernel)))) (nr_137 h), List.forall_mem_cons.mpr ⟨k_str (hts _ (tb_2 _ (List.mem_of_getElem? (i := 62) (by decide +kernel)))) (nr_162 h), List.forall_mem_cons.mpr ⟨k_str (hts _ (tb_2 _ (List.mem_of_getElem? (i := 63) (by decide +kernel)))) (nr_183 h), List.forall_mem_cons.mpr ⟨k_str (hts _ (tb_2 _ (List.mem_of_getElem? (i := 89) (by decide +kernel)))) (nr_209 h), List.forall_mem_cons.mpr ⟨k_str (hts _ (tb_2 _ (List.mem_of_getElem? (i := 93) (by decide +kernel)))) (nr_233 h), List.forall_mem_cons.mpr ⟨k_str (hts _ (tb_2 _ (List.mem_of_getElem? (i := 101) (by decide +kernel)))) (nr_266 h), List.forall_mem_cons.mpr ⟨k_str (hts _ (tb_2 _ (List.mem_of_getElem? (i := 102) (by decide +kernel)))) (nr_299 h), List.forall_mem_cons.mpr ⟨k_str (hts _ (tb_2 _ (List.mem_of_getElem? (i := 199) (by decide +kernel)))) (nr_342 h), List.forall_mem_cons.mpr ⟨k_str (hts _ (tb_2 _ (List.mem_of_getElem? (i := 200) (by decide +kernel)))) (nr_376 h), List.forall_mem_cons.mpr ⟨k_str (hts _ (tb_3 _ (List.mem_of_getElem? (i := 58) (by decide +kernel)))) (nr_418 h), List.forall_mem_cons.mpr ⟨k_str (hts _ (tb_3 _ (List.mem_of_getElem? (i := 59) (by decide +kernel)))) (nr_452 h), List.forall_mem_cons.mpr ⟨k_str (hts _ (tb_3 _ (List.mem_of_getElem? (i := 84) (by decide +kernel)))) (nr_487 h), List.forall_mem_cons.mpr ⟨k_str (hts _ (tb_3 _ (List.mem_of_getElem? (i := 85) (by decide +kernel)))) (nr_517 h), List.forall_mem_cons.mpr ⟨k_str (hts _ (tb_3 _ (List.mem_of_getElem? (i := 86) (by decide +kernel)))) (nr_556 h), fun _ h => absurd h List.not_mem_nil⟩⟩⟩⟩⟩⟩⟩⟩⟩⟩⟩⟩⟩⟩⟩⟩⟩
theorem k_arrP {s : State} {A : Array Value} {ty : FieldType} (h : (Cond.arrayClass ty).before A s = true) (hty : ∀ C, ty ≠ .object C) : ∃ c : ClassId, ArrOfT s c ty ∧ va_RA s c ty := by
  obtain ⟨c, k, comp, h1, h2, h3⟩ := Cond.arrayClass_spec h
  refine ⟨c, fun n z => ⟨fun k h => (by cases h), k, h2, comp, h3⟩, ?_⟩
  cases ty <;> first | exact h1 | exact absurd rfl (hty _)
theorem k_arrO {s : State} {C : String} (h : va_AO C s) : ∃ c : ClassId, ArrOfT s c (.object C) ∧ va_RA s c (.object C) := by
  obtain ⟨comp, c, k, h1, h2, h3, h4, h5⟩ := Cond.arrayOver_spec h
  exact ⟨c, fun n z => ⟨fun k h => (by cases h), k, h3, comp, h4⟩, k, comp, h3, h4, h1, h5⟩
/-- what the law's entry gives -/
theorem k_entry {s : State} {b : Nat} (hws : ∀ w ∈ wsL_law, w.before #[Value.ref b] s = true) (hts : ∀ w ∈ lw_tbl, w.before #[Value.ref b] s = true) (hgv : (Jvm.Cond.and given_1 narrow_1).before #[Value.ref b] s = true) : ∃ G : Ctx, Kf G s s.heap ∧ G.2.2 0 = s.heap.size := by
  have hA : ∀ a : Nat, a < s.heap.size → ¬ (s.heap.size ≤ a) := fun a h => Nat.not_le.mpr h
  obtain ⟨c0, i0, hc0⟩ := u_known (C := RJx4a65c) (T := TJx4a65c) (N := 3) (n := 3) hws inlJx4a65c (hws _ q_18)
  obtain ⟨c1, i1, hc1⟩ := u_known (C := RX0) (T := TX0) (N := 2) (n := 2) hws inlX0 (hws _ q_22)
  obtain ⟨c2, i2, hc2⟩ := u_known (C := RX1) (T := TX1) (N := 4) (n := 4) hws inlX1 (hws _ q_29)
  obtain ⟨c3, i3, hc3⟩ := u_known (C := RX2) (T := TX2) (N := 4) (n := 4) hws inlX2 (hws _ q_339)
  obtain ⟨c4, i4, hc4⟩ := u_known (C := RX3) (T := TX3) (N := 4) (n := 4) hws inlX3 (hws _ q_27)
  obtain ⟨c5, i5, hc5⟩ := u_known (C := RX4) (T := TX4) (N := 7) (n := 7) hws inlX4 (hws _ q_204)
  obtain ⟨c6, i6, hc6⟩ := u_known (C := RX5) (T := TX5) (N := 6) (n := 6) hws inlX5 (hws _ q_1)
  obtain ⟨c7, i7, hc7⟩ := u_known (C := RX6) (T := TX6) (N := 22) (n := 22) hws inlX6 (hws _ q_4)
  obtain ⟨j0, hj0⟩ := k_arrP (hws _ q_60) (fun C h => by cases h)
  obtain ⟨j1, hj1⟩ := k_arrP (hws _ q_76) (fun C h => by cases h)
  obtain ⟨j2, hj2⟩ := k_arrP (hws _ q_6) (fun C h => by cases h)
  have hao := k_AO hts
  obtain ⟨j3, hj3⟩ := k_arrO (hao "LanternDesk$Street" (List.mem_of_getElem? (i := 0) rfl))
  obtain ⟨j4, hj4⟩ := k_arrO (hao "LanternDesk$Escort" (List.mem_of_getElem? (i := 1) rfl))
  obtain ⟨j5, hj5⟩ := k_arrO (hao "java/lang/Object" (List.mem_of_getElem? (i := 2) rfl))
  obtain ⟨mi, hmi⟩ := va_Mi.of (nr_62 hgv)
  obtain ⟨t, ht, hT⟩ := va_Tof (N := 0) (f := fun _ => .null) (A := fun q => s.heap.size ≤ q) (by decide) (nr_3 hgv) (va_eqt (nr_5 hgv)) (fun j hj => absurd hj (Nat.not_lt_zero j)) hA
  have hZ := va_Zref (A := fun q => s.heap.size ≤ q) (hts _ (tb_1 _ (List.mem_of_getElem? (i := 48) (by decide +kernel)))) (hts _ (tb_1 _ (List.mem_of_getElem? (i := 4) (by decide +kernel)))) ht hA
  have hU := vx_Zqof (A := fun q => s.heap.size ≤ q) (hts _ (tb_1 _ (List.mem_of_getElem? (i := 213) (by decide +kernel)))) (hts _ (tb_1 _ (List.mem_of_getElem? (i := 9) (by decide +kernel)))) (nr_6 hgv) hA
  have hN := vx_Zqof (A := fun q => s.heap.size ≤ q) (hts _ (tb_1 _ (List.mem_of_getElem? (i := 215) (by decide +kernel)))) (hts _ (tb_1 _ (List.mem_of_getElem? (i := 9) (by decide +kernel)))) (nr_7 hgv) hA
  refine ⟨((fun k => if k = 0 then c0 else if k = 1 then c1 else if k = 2 then c2 else if k = 3 then c3 else if k = 4 then c4 else if k = 5 then c5 else if k = 6 then c6 else c7, fun k => if k = 0 then i0 else if k = 1 then i1 else if k = 2 then i2 else if k = 3 then i3 else if k = 4 then i4 else if k = 5 then i5 else if k = 6 then i6 else i7), (fun k => if k = 0 then j0 else if k = 1 then j1 else if k = 2 then j2 else if k = 3 then j3 else if k = 4 then j4 else j5), (fun k => if k = 0 then s.heap.size else if k = 1 then t else mi)), ⟨⟨?_, ?_⟩, k_NF hts, k_NM hts, k_NX hts, k_ND hts, k_NO hgv, k_SL hts hgv, hao, hmi, hZ, hT, hU, hN, Nat.le_refl _⟩, rfl⟩
  · intro k q hq
    match k, hq with
    | 0, hq => cases hq; exact hc0
    | 1, hq => cases hq; exact hc1
    | 2, hq => cases hq; exact hc2
    | 3, hq => cases hq; exact hc3
    | 4, hq => cases hq; exact hc4
    | 5, hq => cases hq; exact hc5
    | 6, hq => cases hq; exact hc6
    | 7, hq => cases hq; exact hc7
    | k + 8, hq => simp [vwCl] at hq
  · intro k q hq
    match k, hq with
    | 0, hq => cases hq; exact hj0
    | 1, hq => cases hq; exact hj1
    | 2, hq => cases hq; exact hj2
    | 3, hq => cases hq; exact hj3
    | 4, hq => cases hq; exact hj4
    | 5, hq => cases hq; exact hj5
    | k + 6, hq => simp [tyl] at hq
def mEmp : Mem := ([], (fun _ => 0), (fun _ _ => 0), (fun _ _ => none), (fun _ => 0), (fun _ _ => 0), (fun _ _ => none), (fun _ _ => 0))
theorem k_noTrace (l : Launch) (h : l.flags = flags0) : l.stackTraces = false := by
  unfold Launch.stackTraces
  rw [h]
  decide +kernel
theorem whole_of (pure_law : ∀ (G : Ctx) (L : Nat) (xs : Nat → Int32), L ≤ 2048 → w_L_law G L xs mEmp) {p : Program} {e : Env} {s : State} {m : MethodId} {below : List Frame} {meth : Method} {c : Code} (l : Launch) (hflags : l.flags = flags0) {b L : Nat} {xs : Nat → Int32} (hL : L ≤ 2048) (C0 : lw_At p s m meth c b L xs) : W p l e room_1 s m #[Value.ref b] below meth c s.heap [] 0 0 (lw_Z below #[Value.ref b] s) (entryFrame m ([Value.ref b] : List Value).toArray 7) := by
  obtain ⟨hx, hb, hr, hml, hown, hts, hX, hbl, hlocks, hgv⟩ := C0
  have hws : ∀ w ∈ wsL_law, w.before #[Value.ref b] s = true := fun w hw => hts w (wsL_law_in w hw)
  obtain ⟨G, hK, hG⟩ := k_entry hws hts hgv
  have hAb : ∀ q, Ab G q → s.heap.size ≤ q := fun q hq => by
    have h1 : G.2.2 0 ≤ q := hq
    rw [hG] at h1
    exact h1
  have F : Lx p l s m meth c G b L xs := ⟨⟨⟨hx, hb, hml, hown, hws⟩, hK, hlocks, k_noTrace l hflags⟩, hX, hbl, fun h => absurd (hAb b h) (Nat.not_le.mpr hbl), hAb, hr⟩
  have hW : Wd G mEmp s s.heap [] := ⟨⟨fun k q h => by simp [wld, va_pl, mL, mEmp] at h, ⟨fun i j p q h => by simp [wld, va_pl, mL, mEmp] at h, fun k q h => by simp [wld, va_pl, mL, mEmp] at h⟩⟩, va_S.rf⟩
  have hl := lv_entry ([.ref b]) (n := 7) (Nat.le_of_ble_eq_true rfl)
  rw [lg_entry_eq]
  exact t_L_law F mEmp _ (pure_law G L xs hL) hW hl
