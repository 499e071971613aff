set_option maxRecDepth 100000 in
theorem nr_3 {A : Array Value} {s : State} (h : (Jvm.Cond.and given_1 narrow_1).before A s = true) : (Jvm.Cond.arrayOf (Jvm.Term.static "java/util/ArrayList" "DEFAULTCAPACITY_EMPTY_ELEMENTDATA" "[Ljava/lang/Object;") (Jvm.ClassFile.FieldType.object "java/lang/Object")).before A s = true := flat_of_before _ h _ (List.mem_of_getElem? (i := 5) (by decide +kernel))
set_option maxRecDepth 100000 in
theorem nr_5 {A : Array Value} {s : State} (h : (Jvm.Cond.and given_1 narrow_1).before A s = true) : (Jvm.Cond.eq (Jvm.Term.length (Jvm.Term.static "java/util/ArrayList" "DEFAULTCAPACITY_EMPTY_ELEMENTDATA" "[Ljava/lang/Object;")) (Jvm.Term.int (0 : Int32))).before A s = true := flat_of_before _ h _ (List.mem_of_getElem? (i := 7) (by decide +kernel))
set_option maxRecDepth 100000 in
theorem nr_6 {A : Array Value} {s : State} (h : (Jvm.Cond.and given_1 narrow_1).before A s = true) : (Jvm.Cond.isRef (Jvm.Term.static "java/lang/Throwable" "UNASSIGNED_STACK" "[Ljava/lang/StackTraceElement;")).before A s = true := flat_of_before _ h _ (List.mem_of_getElem? (i := 8) (by decide +kernel))
set_option maxRecDepth 100000 in
theorem nr_7 {A : Array Value} {s : State} (h : (Jvm.Cond.and given_1 narrow_1).before A s = true) : (Jvm.Cond.isRef (Jvm.Term.static "java/lang/Throwable" "SUPPRESSED_SENTINEL" "Ljava/util/List;")).before A s = true := flat_of_before _ h _ (List.mem_of_getElem? (i := 9) (by decide +kernel))
set_option maxRecDepth 100000 in
theorem nr_39 {A : Array Value} {s : State} (h : (Jvm.Cond.and given_1 narrow_1).before A s = true) : (Jvm.Cond.isRef (Jvm.Term.mirror "[Ljava/lang/Object;")).before A s = true := flat_of_before _ h _ (List.mem_of_getElem? (i := 41) (by decide +kernel))
set_option maxRecDepth 100000 in
theorem nr_40 {A : Array Value} {s : State} (h : (Jvm.Cond.and given_1 narrow_1).before A s = true) : (Jvm.Cond.exactly (Jvm.Term.string "LanternDesk" (52 : Nat)) "java/lang/String").before A s = true := flat_of_before _ h _ (List.mem_of_getElem? (i := 42) (by decide +kernel))
set_option maxRecDepth 100000 in
theorem nr_58 {A : Array Value} {s : State} (h : (Jvm.Cond.and given_1 narrow_1).before A s = true) : (Jvm.Cond.exactly (Jvm.Term.string "LanternDesk" (110 : Nat)) "java/lang/String").before A s = true := flat_of_before _ h _ (List.mem_of_getElem? (i := 60) (by decide +kernel))
set_option maxRecDepth 100000 in
theorem nr_84 {A : Array Value} {s : State} (h : (Jvm.Cond.and given_1 narrow_1).before A s = true) : (Jvm.Cond.exactly (Jvm.Term.string "LanternDesk" (115 : Nat)) "java/lang/String").before A s = true := flat_of_before _ h _ (List.mem_of_getElem? (i := 86) (by decide +kernel))
set_option maxRecDepth 100000 in
theorem nr_120 {A : Array Value} {s : State} (h : (Jvm.Cond.and given_1 narrow_1).before A s = true) : (Jvm.Cond.exactly (Jvm.Term.string "LanternDesk" (126 : Nat)) "java/lang/String").before A s = true := flat_of_before _ h _ (List.mem_of_getElem? (i := 122) (by decide +kernel))
set_option maxRecDepth 100000 in
theorem nr_147 {A : Array Value} {s : State} (h : (Jvm.Cond.and given_1 narrow_1).before A s = true) : (Jvm.Cond.exactly (Jvm.Term.string "LanternDesk" (128 : Nat)) "java/lang/String").before A s = true := flat_of_before _ h _ (List.mem_of_getElem? (i := 149) (by decide +kernel))
set_option maxRecDepth 100000 in
theorem nr_182 {A : Array Value} {s : State} (h : (Jvm.Cond.and given_1 narrow_1).before A s = true) : (Jvm.Cond.exactly (Jvm.Term.string "LanternDesk" (96 : Nat)) "java/lang/String").before A s = true := flat_of_before _ h _ (List.mem_of_getElem? (i := 184) (by decide +kernel))
set_option maxRecDepth 100000 in
theorem nr_205 {A : Array Value} {s : State} (h : (Jvm.Cond.and given_1 narrow_1).before A s = true) : (Jvm.Cond.exactly (Jvm.Term.string "LanternDesk" (105 : Nat)) "java/lang/String").before A s = true := flat_of_before _ h _ (List.mem_of_getElem? (i := 207) (by decide +kernel))
set_option maxRecDepth 100000 in
theorem nr_237 {A : Array Value} {s : State} (h : (Jvm.Cond.and given_1 narrow_1).before A s = true) : (Jvm.Cond.exactly (Jvm.Term.string "LanternDesk" (140 : Nat)) "java/lang/String").before A s = true := flat_of_before _ h _ (List.mem_of_getElem? (i := 239) (by decide +kernel))
set_option maxRecDepth 100000 in
theorem nr_266 {A : Array Value} {s : State} (h : (Jvm.Cond.and given_1 narrow_1).before A s = true) : (Jvm.Cond.exactly (Jvm.Term.string "LanternDesk" (142 : Nat)) "java/lang/String").before A s = true := flat_of_before _ h _ (List.mem_of_getElem? (i := 268) (by decide +kernel))
set_option maxRecDepth 100000 in
theorem nr_296 {A : Array Value} {s : State} (h : (Jvm.Cond.and given_1 narrow_1).before A s = true) : (Jvm.Cond.exactly (Jvm.Term.string "LanternDesk" (152 : Nat)) "java/lang/String").before A s = true := flat_of_before _ h _ (List.mem_of_getElem? (i := 298) (by decide +kernel))
set_option maxRecDepth 100000 in
theorem nr_321 {A : Array Value} {s : State} (h : (Jvm.Cond.and given_1 narrow_1).before A s = true) : (Jvm.Cond.exactly (Jvm.Term.string "LanternDesk" (161 : Nat)) "java/lang/String").before A s = true := flat_of_before _ h _ (List.mem_of_getElem? (i := 323) (by decide +kernel))
set_option maxRecDepth 100000 in
theorem nr_355 {A : Array Value} {s : State} (h : (Jvm.Cond.and given_1 narrow_1).before A s = true) : (Jvm.Cond.exactly (Jvm.Term.string "LanternDesk" (166 : Nat)) "java/lang/String").before A s = true := flat_of_before _ h _ (List.mem_of_getElem? (i := 357) (by decide +kernel))
set_option maxRecDepth 100000 in
theorem nr_396 {A : Array Value} {s : State} (h : (Jvm.Cond.and given_1 narrow_1).before A s = true) : (Jvm.Cond.exactly (Jvm.Term.string "LanternDesk" (59 : Nat)) "java/lang/String").before A s = true := flat_of_before _ h _ (List.mem_of_getElem? (i := 398) (by decide +kernel))
set_option maxRecDepth 100000 in
theorem nr_430 {A : Array Value} {s : State} (h : (Jvm.Cond.and given_1 narrow_1).before A s = true) : (Jvm.Cond.exactly (Jvm.Term.string "LanternDesk" (68 : Nat)) "java/lang/String").before A s = true := flat_of_before _ h _ (List.mem_of_getElem? (i := 432) (by decide +kernel))
set_option maxRecDepth 100000 in
theorem nr_474 {A : Array Value} {s : State} (h : (Jvm.Cond.and given_1 narrow_1).before A s = true) : (Jvm.Cond.exactly (Jvm.Term.string "LanternDesk" (71 : Nat)) "java/lang/String").before A s = true := flat_of_before _ h _ (List.mem_of_getElem? (i := 476) (by decide +kernel))
set_option maxRecDepth 100000 in
theorem nr_510 {A : Array Value} {s : State} (h : (Jvm.Cond.and given_1 narrow_1).before A s = true) : (Jvm.Cond.exactly (Jvm.Term.string "LanternDesk" (80 : Nat)) "java/lang/String").before A s = true := flat_of_before _ h _ (List.mem_of_getElem? (i := 512) (by decide +kernel))
set_option maxRecDepth 100000 in
theorem nr_542 {A : Array Value} {s : State} (h : (Jvm.Cond.and given_1 narrow_1).before A s = true) : (Jvm.Cond.exactly (Jvm.Term.string "LanternDesk" (82 : Nat)) "java/lang/String").before A s = true := flat_of_before _ h _ (List.mem_of_getElem? (i := 544) (by decide +kernel))
set_option maxRecDepth 100000 in
theorem k_NF {s : State} {b : Nat} (hts : ∀ w ∈ lw_tbl, w.before #[Value.ref b] s = true) : ∀ q ∈ NF, va_Nw (.fieldLinkNest q.1 q.2.1 q.2.2.1 q.2.2.2.1 q.2.2.2.2.1 q.2.2.2.2.2) s := List.forall_mem_cons.mpr ⟨va_Nw.of rfl (hts _ (tb_1 _ (List.mem_of_getElem? (i := 81) (by decide +kernel)))), List.forall_mem_cons.mpr ⟨va_Nw.of rfl (hts _ (tb_1 _ (List.mem_of_getElem? (i := 83) (by decide +kernel)))), List.forall_mem_cons.mpr ⟨va_Nw.of rfl (hts _ (tb_1 _ (List.mem_of_getElem? (i := 85) (by decide +kernel)))), List.forall_mem_cons.mpr ⟨va_Nw.of rfl (hts _ (tb_1 _ (List.mem_of_getElem? (i := 103) (by decide +kernel)))), List.forall_mem_cons.mpr ⟨va_Nw.of rfl (hts _ (tb_1 _ (List.mem_of_getElem? (i := 105) (by decide +kernel)))), List.forall_mem_cons.mpr ⟨va_Nw.of rfl (hts _ (tb_1 _ (List.mem_of_getElem? (i := 107) (by decide +kernel)))), List.forall_mem_cons.mpr ⟨va_Nw.of rfl (hts _ (tb_1 _ (List.mem_of_getElem? (i := 109) (by decide +kernel)))), List.forall_mem_cons.mpr ⟨va_Nw.of rfl (hts _ (tb_2 _ (List.mem_of_getElem? (i := 16) (by decide +kernel)))), List.forall_mem_cons.mpr ⟨va_Nw.of rfl (hts _ (tb_2 _ (List.mem_of_getElem? (i := 18) (by decide +kernel)))), List.forall_mem_cons.mpr ⟨va_Nw.of rfl (hts _ (tb_2 _ (List.mem_of_getElem? (i := 20) (by decide +kernel)))), List.forall_mem_cons.mpr ⟨va_Nw.of rfl (hts _ (tb_2 _ (List.mem_of_getElem? (i := 22) (by decide +kernel)))), List.forall_mem_cons.mpr ⟨va_Nw.of rfl (hts _ (tb_2 _ (List.mem_of_getElem? (i := 24) (by decide +kernel)))), List.forall_mem_cons.mpr ⟨va_Nw.of rfl (hts _ (tb_2 _ (List.mem_of_getElem? (i := 26) (by decide +kernel)))), List.forall_mem_cons.mpr ⟨va_Nw.of rfl (hts _ (tb_2 _ (List.mem_of_getElem? (i := 28) (by decide +kernel)))), List.forall_mem_cons.mpr ⟨va_Nw.of rfl (hts _ (tb_2 _ (List.mem_of_getElem? (i := 190) (by decide +kernel)))), fun _ h => absurd h List.not_mem_nil⟩⟩⟩⟩⟩⟩⟩⟩⟩⟩⟩⟩⟩⟩⟩
set_option maxRecDepth 100000 in
theorem k_NM {s : State} {b : Nat} (hts : ∀ w ∈ lw_tbl, w.before #[Value.ref b] s = true) : ∀ q ∈ NM, va_Nw (.methodLinkNest q.1 q.2.1 q.2.2.1 q.2.2.2) s := List.forall_mem_cons.mpr ⟨va_Nw.of rfl (hts _ (tb_1 _ (List.mem_of_getElem? (i := 62) (by decide +kernel)))), fun _ h => absurd h List.not_mem_nil⟩
set_option maxRecDepth 100000 in
theorem k_NX {s : State} {b : Nat} (hts : ∀ w ∈ lw_tbl, w.before #[Value.ref b] s = true) : ∀ q ∈ NX, va_Nw (.castable q.1 q.2) s := List.forall_mem_cons.mpr ⟨va_Nw.of rfl (hts _ (tb_1 _ (List.mem_of_getElem? (i := 147) (by decide +kernel)))), List.forall_mem_cons.mpr ⟨va_Nw.of rfl (hts _ (tb_1 _ (List.mem_of_getElem? (i := 215) (by decide +kernel)))), List.forall_mem_cons.mpr ⟨va_Nw.of rfl (hts _ (tb_1 _ (List.mem_of_getElem? (i := 235) (by decide +kernel)))), List.forall_mem_cons.mpr ⟨va_Nw.of rfl (hts _ (tb_3 _ (List.mem_of_getElem? (i := 153) (by decide +kernel)))), List.forall_mem_cons.mpr ⟨va_Nw.of rfl (hts _ (tb_3 _ (List.mem_of_getElem? (i := 154) (by decide +kernel)))), fun _ h => absurd h List.not_mem_nil⟩⟩⟩⟩⟩
set_option maxRecDepth 100000 in
theorem k_ND {s : State} {b : Nat} (hts : ∀ w ∈ lw_tbl, w.before #[Value.ref b] s = true) : ∀ z ∈ ND, va_Nw (.declares z) s := List.forall_mem_cons.mpr ⟨va_Nw.of rfl (hts _ (tb_1 _ (List.mem_of_getElem? (i := 148) (by decide +kernel)))), List.forall_mem_cons.mpr ⟨va_Nw.of rfl (hts _ (tb_1 _ (List.mem_of_getElem? (i := 149) (by decide +kernel)))), List.forall_mem_cons.mpr ⟨va_Nw.of rfl (hts _ (tb_1 _ (List.mem_of_getElem? (i := 150) (by decide +kernel)))), List.forall_mem_cons.mpr ⟨va_Nw.of rfl (hts _ (tb_1 _ (List.mem_of_getElem? (i := 151) (by decide +kernel)))), List.forall_mem_cons.mpr ⟨va_Nw.of rfl (hts _ (tb_1 _ (List.mem_of_getElem? (i := 152) (by decide +kernel)))), List.forall_mem_cons.mpr ⟨va_Nw.of rfl (hts _ (tb_1 _ (List.mem_of_getElem? (i := 153) (by decide +kernel)))), List.forall_mem_cons.mpr ⟨va_Nw.of rfl (hts _ (tb_3 _ (List.mem_of_getElem? (i := 159) (by decide +kernel)))), fun _ h => absurd h List.not_mem_nil⟩⟩⟩⟩⟩⟩⟩
set_option maxRecDepth 100000 in
theorem k_AO {s : State} {b : Nat} (hts : ∀ w ∈ lw_tbl, w.before #[Value.ref b] s = true) : ∀ C ∈ AOL, va_AO C s := List.forall_mem_cons.mpr ⟨va_AO.of (hts _ (tb_1 _ (List.mem_of_getElem? (i := 31) (by decide +kernel)))), List.forall_mem_cons.mpr ⟨va_AO.of (hts _ (tb_1 _ (List.mem_of_getElem? (i := 33) (by decide +kernel)))), List.forall_mem_cons.mpr ⟨va_AO.of (hts _ (tb_2 _ (List.mem_of_getElem? (i := 91) (by decide +kernel)))), fun _ h => absurd h List.not_mem_nil⟩⟩⟩
set_option maxRecDepth 100000 in
theorem k_NO {s : State} {A : Array Value} (h : (Jvm.Cond.and given_1 narrow_1).before A s = true) : ∀ q ∈ NO, va_Nc q.1 q.2 s := fun _ h => absurd h List.not_mem_nil
theorem k_str {own tx : String} {k : Nat} {s : State} {A : Array Value} (h1 : (Cond.stringRef own k tx).before A s = true) (h2 : (Cond.exactly (.string own k) "java/lang/String").before A s = true) : ∃ a : Nat, vk_R own k tx a s := by
  obtain ⟨a, c, cell, k9, g1, -⟩ := Cond.exactly_spec h2
  exact ⟨a, vk_R.of h1 g1⟩
set_option maxRecDepth 100000 in
theorem k_SL {s : State} {b : Nat} (hts : ∀ w ∈ lw_tbl, w.before #[Value.ref b] s = true) (h : (Jvm.Cond.and given_1 narrow_1).before #[Value.ref b] s = true) : ∀ q ∈ SL, ∃ a : Nat, vk_R q.1 q.2.1 q.2.2 a s := List.forall_mem_cons.mpr ⟨k_str (hts _ (tb_1 _ (List.mem_of_getElem? (i := 186) (by decide +kernel)))) (nr_40 h), List.forall_mem_cons.mpr ⟨k_str (hts _ (tb_1 _ (List.mem_of_getElem? (i := 222) (by decide +kernel)))) (nr_58 h), List.forall_mem_cons.mpr ⟨k_str (hts _ (tb_2 _ (List.mem_of_getElem? (i := 2) (by decide +kernel)))) (nr_84 h), List.forall_mem_cons.mpr ⟨k_str (hts _ (tb_2 _ (List.mem_of_getElem? (i := 105) (by decide +kernel)))) (nr_120 h), List.forall_mem_cons.mpr ⟨k_str (hts _ (tb_2 _ (List.mem_of_getElem? (i := 106) (by decide +kernel)))) (nr_147 h), List.forall_mem_cons.mpr ⟨k_str (hts _ (tb_2 _ (List.mem_of_getElem? (i := 225) (by decide +kernel)))) (nr_182 h), List.forall_mem_cons.mpr ⟨k_str (hts _ (tb_2 _ (List.mem_of_getElem? (i := 226) (by decide +kernel)))) (nr_205 h), List.forall_mem_cons.mpr ⟨k_str (hts _ (tb_2 _ (List.mem_of_getElem? (i := 235) (by decide +kernel)))) (nr_237 h), List.forall_mem_cons.mpr ⟨k_str (hts _ (tb_2 _ (List.mem_of_getElem? (i := 236) (by decide +kernel)))) (nr_266 h), List.forall_mem_cons.mpr ⟨k_str (hts _ (tb_3 _ (List.mem_of_getElem? (i := 18) (by decide +kernel)))) (nr_296 h), List.forall_mem_cons.mpr ⟨k_str (hts _ (tb_3 _ (List.mem_of_getElem? (i := 19) (by decide +kernel)))) (nr_321 h), List.forall_mem_cons.mpr ⟨k_str (hts _ (tb_3 _ (List.mem_of_getElem? (i := 20) (by decide +kernel)))) (nr_355 h), List.forall_mem_cons.mpr ⟨k_str (hts _ (tb_3 _ (List.mem_of_getElem? (i := 108) (by decide +kernel)))) (nr_396 h), List.forall_mem_cons.mpr ⟨k_str (hts _ (tb_3 _ (List.mem_of_getElem? (i := 110) (by decide +kernel)))) (nr_430 h), List.forall_mem_cons.mpr ⟨k_str (hts _ (tb_3 _ (List.mem_of_getElem? (i := 115) (by decide +kernel)))) (nr_474 h), List.forall_mem_cons.mpr ⟨k_str (hts _ (tb_3 _ (List.mem_of_getElem? (i := 120) (by decide +kernel)))) (nr_510 h), List.forall_mem_cons.mpr ⟨k_str (hts _ (tb_3 _ (List.mem_of_getElem? (i := 121) (by decide +kernel)))) (nr_542 h), fun _ h => absurd h List.not_mem_nil⟩⟩⟩⟩⟩⟩⟩⟩⟩⟩⟩⟩⟩⟩⟩⟩⟩
theorem k_arrP {s : State} {A : Array Value} {ty : FieldType} (h : (Cond.arrayClass ty).before A s = true) (hty : ∀ C, ty ≠ .object C) : ∃ c : ClassId, ArrOfT s c ty ∧ va_RA s c ty := by
  obtain ⟨c, k, comp, h1, h2, h3⟩ := Cond.arrayClass_spec h
  refine ⟨c, fun n z => ⟨fun k h => (by cases h), k, h2, comp, h3⟩, ?_⟩
  cases ty <;> first | exact h1 | exact absurd rfl (hty _)
theorem k_arrO {s : State} {C : String} (h : va_AO C s) : ∃ c : ClassId, ArrOfT s c (.object C) ∧ va_RA s c (.object C) := by
  obtain ⟨comp, c, k, h1, h2, h3, h4, h5⟩ := Cond.arrayOver_spec h
  exact ⟨c, fun n z => ⟨fun k h => (by cases h), k, h3, comp, h4⟩, k, comp, h3, h4, h1, h5⟩
theorem k_nI (x : Int32) : nI x.toBitVec.toNat = x := by
  apply Int32.toBitVec_inj.mp
  show BitVec.ofNat 32 x.toBitVec.toNat = x.toBitVec
  apply BitVec.eq_of_toNat_eq
  rw [BitVec.toNat_ofNat]
  exact Nat.mod_eq_of_lt x.toBitVec.isLt
theorem k_scr {s : State} {b L z t mi : Nat} {xs : Nat → Int32} (hX : va_X b L xs s s.heap) : va_X b L (fun j => nI ((fun k : Nat => if k = 0 then z else if k = 1 then t else if k = 2 then mi else if k = 3 then b else if k = 4 then L else (xs (k - 5)).toBitVec.toNat) (5 + j))) s s.heap := by
  have e : (fun j => nI ((fun k : Nat => if k = 0 then z else if k = 1 then t else if k = 2 then mi else if k = 3 then b else if k = 4 then L else (xs (k - 5)).toBitVec.toNat) (5 + j))) = xs := by
    funext j
    show nI (if 5 + j = 0 then z else if 5 + j = 1 then t else if 5 + j = 2 then mi else if 5 + j = 3 then b else if 5 + j = 4 then L else (xs (5 + j - 5)).toBitVec.toNat) = xs j
    rw [if_neg (by omega), if_neg (by omega), if_neg (by omega), if_neg (by omega), if_neg (by omega), Nat.add_sub_cancel_left]
    exact k_nI (xs j)
  rw [e]; exact hX
/-- what the law's entry gives -/
theorem k_entry {s : State} {b : Nat} (hws : ∀ w ∈ wsL_law, w.before #[Value.ref b] s = true) (hts : ∀ w ∈ lw_tbl, w.before #[Value.ref b] s = true) (hgv : (Jvm.Cond.and given_1 narrow_1).before #[Value.ref b] s = true) {L : Nat} {xs : Nat → Int32} (hX : va_X b L xs s s.heap) (hbl : b < s.heap.size) : ∃ G : Ctx, Kf G s s.heap ∧ G.2.2 0 = s.heap.size ∧ G.2.2 3 = b ∧ G.2.2 4 = L := by
  have hA : ∀ a : Nat, a < s.heap.size → ¬ (s.heap.size ≤ a) := fun a h => Nat.not_le.mpr h
  obtain ⟨c0, i0, hc0⟩ := u_known (C := RJx4a65c) (T := TJx4a65c) (N := 3) (n := 3) hws inlJx4a65c (hws _ q_15)
  obtain ⟨c1, i1, hc1⟩ := u_known (C := RX0) (T := TX0) (N := 2) (n := 2) hws inlX0 (hws _ q_19)
  obtain ⟨c2, i2, hc2⟩ := u_known (C := RX1) (T := TX1) (N := 4) (n := 4) hws inlX1 (hws _ q_26)
  obtain ⟨c3, i3, hc3⟩ := u_known (C := RX2) (T := TX2) (N := 4) (n := 4) hws inlX2 (hws _ q_304)
  obtain ⟨c4, i4, hc4⟩ := u_known (C := RX3) (T := TX3) (N := 4) (n := 4) hws inlX3 (hws _ q_24)
  obtain ⟨c5, i5, hc5⟩ := u_known (C := RX4) (T := TX4) (N := 7) (n := 7) hws inlX4 (hws _ q_87)
  obtain ⟨c6, i6, hc6⟩ := u_known (C := RX5) (T := TX5) (N := 6) (n := 6) hws inlX5 (hws _ q_1)
  obtain ⟨j0, hj0⟩ := k_arrP (hws _ q_3) (fun C h => by cases h)
  obtain ⟨j1, hj1⟩ := k_arrP (hws _ q_3) (fun C h => by cases h)
  obtain ⟨j2, hj2⟩ := k_arrP (hws _ q_3) (fun C h => by cases h)
  have hao := k_AO hts
  obtain ⟨j3, hj3⟩ := k_arrO (hao "LanternDesk$Street" (List.mem_of_getElem? (i := 0) rfl))
  obtain ⟨j4, hj4⟩ := k_arrO (hao "LanternDesk$Escort" (List.mem_of_getElem? (i := 1) rfl))
  obtain ⟨j5, hj5⟩ := k_arrO (hao "java/lang/Object" (List.mem_of_getElem? (i := 2) rfl))
  obtain ⟨mi, hmi⟩ := va_Mi.of (nr_39 hgv)
  obtain ⟨t, ht, hT⟩ := va_Tof (N := 0) (f := fun _ => .null) (A := fun q => s.heap.size ≤ q) (by decide) (nr_3 hgv) (va_eqt (nr_5 hgv)) (fun j hj => absurd hj (Nat.not_lt_zero j)) hA
  have hZ := va_Zref (A := fun q => s.heap.size ≤ q) (hts _ (tb_1 _ (List.mem_of_getElem? (i := 47) (by decide +kernel)))) (hts _ (tb_1 _ (List.mem_of_getElem? (i := 4) (by decide +kernel)))) ht hA
  have hU := vx_Zqof (A := fun q => s.heap.size ≤ q) (hts _ (tb_1 _ (List.mem_of_getElem? (i := 172) (by decide +kernel)))) (hts _ (tb_1 _ (List.mem_of_getElem? (i := 8) (by decide +kernel)))) (nr_6 hgv) hA
  have hN := vx_Zqof (A := fun q => s.heap.size ≤ q) (hts _ (tb_1 _ (List.mem_of_getElem? (i := 174) (by decide +kernel)))) (hts _ (tb_1 _ (List.mem_of_getElem? (i := 8) (by decide +kernel)))) (nr_7 hgv) hA
  refine ⟨((fun k => if k = 0 then c0 else if k = 1 then c1 else if k = 2 then c2 else if k = 3 then c3 else if k = 4 then c4 else if k = 5 then c5 else c6, fun k => if k = 0 then i0 else if k = 1 then i1 else if k = 2 then i2 else if k = 3 then i3 else if k = 4 then i4 else if k = 5 then i5 else i6), (fun k => if k = 0 then j0 else if k = 1 then j1 else if k = 2 then j2 else if k = 3 then j3 else if k = 4 then j4 else j5), (fun k => if k = 0 then s.heap.size else if k = 1 then t else if k = 2 then mi else if k = 3 then b else if k = 4 then L else (xs (k - 5)).toBitVec.toNat)), ⟨⟨?_, ?_⟩, k_NF hts, k_NM hts, k_NX hts, k_ND hts, k_NO hgv, k_SL hts hgv, hao, hmi, hZ, hT, hU, hN, Nat.le_refl _, k_scr hX, hbl⟩, rfl, rfl, rfl⟩
  · intro k q hq
    match k, hq with
    | 0, hq => cases hq; exact hc0
    | 1, hq => cases hq; exact hc1
    | 2, hq => cases hq; exact hc2
    | 3, hq => cases hq; exact hc3
    | 4, hq => cases hq; exact hc4
    | 5, hq => cases hq; exact hc5
    | 6, hq => cases hq; exact hc6
    | k + 7, hq => simp [vwCl] at hq
  · intro k q hq
    match k, hq with
    | 0, hq => cases hq; exact hj0
    | 1, hq => cases hq; exact hj1
    | 2, hq => cases hq; exact hj2
    | 3, hq => cases hq; exact hj3
    | 4, hq => cases hq; exact hj4
    | 5, hq => cases hq; exact hj5
    | k + 6, hq => simp [tyl] at hq
def mEmp : Mem := ([], (fun _ => 0), (fun _ _ => 0), (fun _ _ => none), (fun _ => 0), (fun _ _ => 0), (fun _ _ => none), (fun _ _ => 0))
theorem k_noTrace (l : Launch) (h : l.flags = flags0) : l.stackTraces = false := by
  unfold Launch.stackTraces
  rw [h]
  decide +kernel
theorem whole_of (pure_law : ∀ (G : Ctx), G.2.2 4 ≤ 260 → w_L_law G mEmp) {p : Program} {e : Env} {s : State} {m : MethodId} {below : List Frame} {meth : Method} {c : Code} (l : Launch) (hflags : l.flags = flags0) {b L : Nat} {xs : Nat → Int32} (hL : L ≤ 260) (C0 : lw_At p s m meth c b L xs) : W p l e room_1 s m #[Value.ref b] below meth c s.heap [] 0 0 (lw_Z below #[Value.ref b] s) (entryFrame m ([Value.ref b] : List Value).toArray 17) := by
  obtain ⟨hx, hb, hr, hml, hown, hts, hX, hbl, hlocks, hgv⟩ := C0
  have hws : ∀ w ∈ wsL_law, w.before #[Value.ref b] s = true := fun w hw => hts w (wsL_law_in w hw)
  obtain ⟨G, hK, hG, hG3, hG4⟩ := k_entry hws hts hgv hX hbl
  have hAb : ∀ q, Ab G q → s.heap.size ≤ q := fun q hq => by
    have h1 : G.2.2 0 ≤ q := hq
    rw [hG] at h1
    exact h1
  subst hG3
  have F : Fx p l s m #[Value.ref (G.2.2 3)] meth c cL_law 17 RL G := ⟨⟨hx, hb, hml, hown, hws⟩, hK, hlocks, k_noTrace l hflags⟩
  have hW : Wd G mEmp s s.heap [] := ⟨⟨fun k q h => by simp [wld, va_pl, mL, mEmp] at h, ⟨fun i j p q h => by simp [wld, va_pl, mL, mEmp] at h, fun k q h => by simp [wld, va_pl, mL, mEmp] at h⟩⟩, va_S.rf⟩
  have hl := lv_entry ([.ref (G.2.2 3)]) (n := 17) (Nat.le_of_ble_eq_true rfl)
  rw [lg_entry_eq]
  exact t_L_law F hr hAb mEmp _ (pure_law G (by rw [hG4]; exact hL)) hW hl
