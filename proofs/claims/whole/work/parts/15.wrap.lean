section WK4
set_option maxHeartbeats 4000000 in
set_option maxRecDepth 100000 in
theorem c_L_ask {l : Launch} (hst : l.stackTraces = false) (G : Ctx) (v0 : Nat) (v1 : Int32) (v2 : Int32) (v3 : Nat) (MC MS : Nat) (u : Mem) (K : Int32 → Mem → Prop) (h : w_L_ask G v0 v1 v2 v3 MC MS u K) : CtI l yL_ask (.codeWith yL_ask cL_ask 5 (some .int) [(0, 10, 13, 13), (0, 10, 17, 15), (0, 10, 21, 17)]) 8 214 MC MS G [.ref v0, .int v1, .int v2, .ref v3] u K := by
  refine entW (by first | decide | decide +kernel) hst (by first | decide | exact Nat.le_of_ble_eq_true rfl) (fun p e s m below meth c ls F hr hT hW hl => ?_)
  have F : Fx p l s m ([.ref v0, .int v1, .int v2, .ref v3]).toArray meth c cL_ask 5 RL G := F
  have hl : lv_has ls 5 [(0, .ref v0), (1, .int v1), (2, .int v2), (3, .ref v3)] := hl
  have hx := F.1.1
  have hb := F.1.2.1
  have hbc : 0 + MC = MC := Nat.zero_add _
  have hbs : 0 + MS = MS := Nat.zero_add _
  unfold w_L_ask at h
  refine lv_aload_n hx hb dL_ask_0 rfl (lv_at hl 3 rfl) ?_
  refine lv_iconst (v := (0 : Int32)) hx hb dL_ask_1 (by decide) ?_
  refine lv_aload_n hx hb dL_ask_2 rfl (lv_at hl 0 rfl) ?_
  refine lv_iload_n hx hb dL_ask_3 rfl (lv_at hl 1 rfl) ?_
  refine lv_iload_n hx hb dL_ask_4 rfl (lv_at hl 2 rfl) ?_
  obtain ⟨c3, b4, h1, h2, h⟩ := h
  have hf1 := bdf hbc h1
  have hf2 := bdf hbs h2
  obtain ⟨hob, h⟩ := h
  refine cX (runX (n := 2) (As := [.int v1, .int v2]) (rest := [.int (0 : Int32), .ref v3]) F hW (c_X5_ask F.2.2.2 G v0 v1 v2 c3 b4 u _ _ h) hob (ci := 6) rfl q_199 q_200 q_201 q_2 q_202 rfl (by decide +kernel) ⟨Nat.le_of_ble_eq_true rfl, Nat.le_of_ble_eq_true rfl⟩ dL_ask_5 rfl hl.1 (Nat.le_of_ble_eq_true rfl) ⟨hf1, hf2⟩) hW (fun r2 u1 h9 H locs hW => ?_) (fun E u1 h9 H locs hW => ?_)
  · replace h := h9
    clear h9
    replace hbc := bdg hbc h1
    replace hbs := bdg hbs h2
    clear h1 h2 hf1 hf2
    refine lv_i2l hx hb dL_ask_8 rfl ?_
    refine rJast F hW h.1 h.2.1 dL_ask_9 (fun H locs hW => ?_)
    replace h := h.2.2
    obtain ⟨u5, eu⟩ : ∃ z, z = setJ u1 v3 ((0 : Int32).toNatClampNeg) ((r2).toInt64) := ⟨_, rfl⟩
    rw [← eu] at hW
    replace h := h u5 eu
    clear eu
    refine lv_goto (tgt := 25) hx hb dL_ask_10 (by decide) ?_
    refine lv_iconst (v := (0 : Int32)) hx hb dL_ask_25 (by decide) ?_
    refine W.widen (k := MC) (n := MS) (Nat.le.intro hbc) (Nat.le.intro hbs) ?_
    exact retI F hr hW h dL_ask_26
  · replace h := h9
    clear h9
    replace hbc := bdg hbc h1
    replace hbs := bdg hbs h2
    clear h1 h2 hf1 hf2
    rcases h with ⟨rfl, h⟩ | ⟨rfl, h⟩ | ⟨rfl, h⟩
    · refine rCatch F hT [] (0, 10, 13, 13) [(0, 10, 17, 15), (0, 10, 21, 17)] rfl ?_ ⟨by decide, by decide⟩ (by decide) q_96 (List.mem_of_getElem? (i := 0) rfl) (fun q6 => ?_)
      · intro z hz
        cases hz
      · skip
        refine lv_astore (lv' := [(4, .ref q6), (0, .ref v0), (1, .int v1), (2, .int v2), (3, .ref v3)]) hx hb dL_ask_13 hl (by decide) rfl (fun ls hl9 => ?_)
        replace hl := hl9
        clear hl9
        refine lv_iconst (v := (1 : Int32)) hx hb dL_ask_15 (by decide) ?_
        refine W.widen (k := MC) (n := MS) (Nat.le.intro hbc) (Nat.le.intro hbs) ?_
        exact retI F hr hW h dL_ask_16
    · refine rCatch F hT [(0, 10, 13, 13)] (0, 10, 17, 15) [(0, 10, 21, 17)] rfl ?_ ⟨by decide, by decide⟩ (by decide) q_97 (List.mem_of_getElem? (i := 1) rfl) (fun q7 => ?_)
      · intro z hz
        simp only [List.mem_cons, List.not_mem_nil, or_false] at hz
        rcases hz with rfl
        · exact ⟨by decide, "java/lang/IndexOutOfBoundsException", q_96, List.mem_of_getElem? (i := 2) rfl⟩
      · skip
        refine lv_astore (lv' := [(4, .ref q7), (0, .ref v0), (1, .int v1), (2, .int v2), (3, .ref v3)]) hx hb dL_ask_17 hl (by decide) rfl (fun ls hl9 => ?_)
        replace hl := hl9
        clear hl9
        refine lv_iconst (v := (2 : Int32)) hx hb dL_ask_19 (by decide) ?_
        refine W.widen (k := MC) (n := MS) (Nat.le.intro hbc) (Nat.le.intro hbs) ?_
        exact retI F hr hW h dL_ask_20
    · refine rCatch F hT [(0, 10, 13, 13), (0, 10, 17, 15)] (0, 10, 21, 17) [] rfl ?_ ⟨by decide, by decide⟩ (by decide) q_98 (List.mem_of_getElem? (i := 2) rfl) (fun q8 => ?_)
      · intro z hz
        simp only [List.mem_cons, List.not_mem_nil, or_false] at hz
        rcases hz with rfl | rfl
        · exact ⟨by decide, "java/lang/IndexOutOfBoundsException", q_96, List.mem_of_getElem? (i := 4) rfl⟩
        · exact ⟨by decide, "java/lang/IllegalArgumentException", q_97, List.mem_of_getElem? (i := 5) rfl⟩
      · skip
        refine lv_astore (lv' := [(4, .ref q8), (0, .ref v0), (1, .int v1), (2, .int v2), (3, .ref v3)]) hx hb dL_ask_21 hl (by decide) rfl (fun ls hl9 => ?_)
        replace hl := hl9
        clear hl9
        refine lv_iconst (v := (3 : Int32)) hx hb dL_ask_23 (by decide) ?_
        refine W.widen (k := MC) (n := MS) (Nat.le.intro hbc) (Nat.le.intro hbs) ?_
        exact retI F hr hW h dL_ask_24
set_option maxHeartbeats 4000000 in
set_option maxRecDepth 100000 in
theorem c_L_complain {l : Launch} (hst : l.stackTraces = false) (G : Ctx) (v0 : Nat) (v1 : Int32) (v2 : Int32) (v3 : Nat) (MC MS : Nat) (u : Mem) (K : Int32 → Mem → Prop) (h : w_L_complain G v0 v1 v2 v3 MC MS u K) : CtI l yL_complain (.codeWith yL_complain cL_complain 5 (some .int) [(0, 10, 13, 13), (0, 10, 17, 17)]) 7 124 MC MS G [.ref v0, .int v1, .int v2, .ref v3] u K := by
  refine entW (by first | decide | decide +kernel) hst (by first | decide | exact Nat.le_of_ble_eq_true rfl) (fun p e s m below meth c ls F hr hT hW hl => ?_)
  have F : Fx p l s m ([.ref v0, .int v1, .int v2, .ref v3]).toArray meth c cL_complain 5 RL G := F
  have hl : lv_has ls 5 [(0, .ref v0), (1, .int v1), (2, .int v2), (3, .ref v3)] := hl
  have hx := F.1.1
  have hb := F.1.2.1
  have hbc : 0 + MC = MC := Nat.zero_add _
  have hbs : 0 + MS = MS := Nat.zero_add _
  unfold w_L_complain at h
  refine lv_aload_n hx hb dL_complain_0 rfl (lv_at hl 3 rfl) ?_
  refine lv_iconst (v := (0 : Int32)) hx hb dL_complain_1 (by decide) ?_
  refine lv_aload_n hx hb dL_complain_2 rfl (lv_at hl 0 rfl) ?_
  refine lv_iload_n hx hb dL_complain_3 rfl (lv_at hl 1 rfl) ?_
  refine lv_iload_n hx hb dL_complain_4 rfl (lv_at hl 2 rfl) ?_
  obtain ⟨c3, b4, h1, h2, h⟩ := h
  have hf1 := bdf hbc h1
  have hf2 := bdf hbs h2
  obtain ⟨hob, h⟩ := h
  refine cX (runX (n := 2) (As := [.int v1, .int v2]) (rest := [.int (0 : Int32), .ref v3]) F hW (c_X5_complain F.2.2.2 G v0 v1 v2 c3 b4 u _ _ h) hob (ci := 6) rfl q_424 q_425 q_426 q_2 q_427 rfl (by decide +kernel) ⟨Nat.le_of_ble_eq_true rfl, Nat.le_of_ble_eq_true rfl⟩ dL_complain_5 rfl hl.1 (Nat.le_of_ble_eq_true rfl) ⟨hf1, hf2⟩) hW (fun r2 u1 h9 H locs hW => ?_) (fun E u1 h9 H locs hW => ?_)
  · replace h := h9
    clear h9
    replace hbc := bdg hbc h1
    replace hbs := bdg hbs h2
    clear h1 h2 hf1 hf2
    refine lv_i2l hx hb dL_complain_8 rfl ?_
    refine rJast F hW h.1 h.2.1 dL_complain_9 (fun H locs hW => ?_)
    replace h := h.2.2
    obtain ⟨u5, eu⟩ : ∃ z, z = setJ u1 v3 ((0 : Int32).toNatClampNeg) ((r2).toInt64) := ⟨_, rfl⟩
    rw [← eu] at hW
    replace h := h u5 eu
    clear eu
    refine lv_goto (tgt := 21) hx hb dL_complain_10 (by decide) ?_
    refine lv_iconst (v := (0 : Int32)) hx hb dL_complain_21 (by decide) ?_
    refine W.widen (k := MC) (n := MS) (Nat.le.intro hbc) (Nat.le.intro hbs) ?_
    exact retI F hr hW h dL_complain_22
  · replace h := h9
    clear h9
    replace hbc := bdg hbc h1
    replace hbs := bdg hbs h2
    clear h1 h2 hf1 hf2
    rcases h with ⟨rfl, h⟩ | ⟨rfl, h⟩
    · refine rCatch F hT [] (0, 10, 13, 13) [(0, 10, 17, 17)] rfl ?_ ⟨by decide, by decide⟩ (by decide) q_96 (List.mem_of_getElem? (i := 0) rfl) (fun q6 => ?_)
      · intro z hz
        cases hz
      · skip
        refine lv_astore (lv' := [(4, .ref q6), (0, .ref v0), (1, .int v1), (2, .int v2), (3, .ref v3)]) hx hb dL_complain_13 hl (by decide) rfl (fun ls hl9 => ?_)
        replace hl := hl9
        clear hl9
        refine lv_iconst (v := (1 : Int32)) hx hb dL_complain_15 (by decide) ?_
        refine W.widen (k := MC) (n := MS) (Nat.le.intro hbc) (Nat.le.intro hbs) ?_
        exact retI F hr hW h dL_complain_16
    · refine rCatch F hT [(0, 10, 13, 13)] (0, 10, 17, 17) [] rfl ?_ ⟨by decide, by decide⟩ (by decide) q_98 (List.mem_of_getElem? (i := 2) rfl) (fun q7 => ?_)
      · intro z hz
        simp only [List.mem_cons, List.not_mem_nil, or_false] at hz
        rcases hz with rfl
        · exact ⟨by decide, "java/lang/IndexOutOfBoundsException", q_96, List.mem_of_getElem? (i := 4) rfl⟩
      · skip
        refine lv_astore (lv' := [(4, .ref q7), (0, .ref v0), (1, .int v1), (2, .int v2), (3, .ref v3)]) hx hb dL_complain_17 hl (by decide) rfl (fun ls hl9 => ?_)
        replace hl := hl9
        clear hl9
        refine lv_iconst (v := (2 : Int32)) hx hb dL_complain_19 (by decide) ?_
        refine W.widen (k := MC) (n := MS) (Nat.le.intro hbc) (Nat.le.intro hbs) ?_
        exact retI F hr hW h dL_complain_20
set_option maxHeartbeats 4000000 in
set_option maxRecDepth 100000 in
theorem c_L_dark {l : Launch} (hst : l.stackTraces = false) (G : Ctx) (v0 : Nat) (v1 : Int32) (v2 : Nat) (MC MS : Nat) (u : Mem) (K : Int32 → Mem → Prop) (h : w_L_dark G v0 v1 v2 MC MS u K) : CtI l yL_dark (.codeWith yL_dark cL_dark 4 (some .int) [(0, 9, 12, 13)]) 7 122 MC MS G [.ref v0, .int v1, .ref v2] u K := by
  refine entW (by first | decide | decide +kernel) hst (by first | decide | exact Nat.le_of_ble_eq_true rfl) (fun p e s m below meth c ls F hr hT hW hl => ?_)
  have F : Fx p l s m ([.ref v0, .int v1, .ref v2]).toArray meth c cL_dark 4 RL G := F
  have hl : lv_has ls 4 [(0, .ref v0), (1, .int v1), (2, .ref v2)] := hl
  have hx := F.1.1
  have hb := F.1.2.1
  have hbc : 0 + MC = MC := Nat.zero_add _
  have hbs : 0 + MS = MS := Nat.zero_add _
  unfold w_L_dark at h
  refine lv_aload_n hx hb dL_dark_0 rfl (lv_at hl 2 rfl) ?_
  refine lv_iconst (v := (0 : Int32)) hx hb dL_dark_1 (by decide) ?_
  refine lv_aload_n hx hb dL_dark_2 rfl (lv_at hl 0 rfl) ?_
  refine lv_iload_n hx hb dL_dark_3 rfl (lv_at hl 1 rfl) ?_
  obtain ⟨c3, b4, h1, h2, h⟩ := h
  have hf1 := bdf hbc h1
  have hf2 := bdf hbs h2
  obtain ⟨hob, h⟩ := h
  refine cX (runX (n := 1) (As := [.int v1]) (rest := [.int (0 : Int32), .ref v2]) F hW (c_X5_dark F.2.2.2 G v0 v1 c3 b4 u _ _ h) hob (ci := 6) rfl q_501 q_502 q_503 q_2 q_504 rfl (by decide +kernel) ⟨Nat.le_of_ble_eq_true rfl, Nat.le_of_ble_eq_true rfl⟩ dL_dark_4 rfl hl.1 (Nat.le_of_ble_eq_true rfl) ⟨hf1, hf2⟩) hW (fun r2 u1 h9 H locs hW => ?_) (fun E u1 h9 H locs hW => ?_)
  · replace h := h9
    clear h9
    replace hbc := bdg hbc h1
    replace hbs := bdg hbs h2
    clear h1 h2 hf1 hf2
    refine lv_i2l hx hb dL_dark_7 rfl ?_
    refine rJast F hW h.1 h.2.1 dL_dark_8 (fun H locs hW => ?_)
    replace h := h.2.2
    obtain ⟨u5, eu⟩ : ∃ z, z = setJ u1 v2 ((0 : Int32).toNatClampNeg) ((r2).toInt64) := ⟨_, rfl⟩
    rw [← eu] at hW
    replace h := h u5 eu
    clear eu
    refine lv_goto (tgt := 15) hx hb dL_dark_9 (by decide) ?_
    refine lv_iconst (v := (0 : Int32)) hx hb dL_dark_15 (by decide) ?_
    refine W.widen (k := MC) (n := MS) (Nat.le.intro hbc) (Nat.le.intro hbs) ?_
    exact retI F hr hW h dL_dark_16
  · replace h := h9
    clear h9
    replace hbc := bdg hbc h1
    replace hbs := bdg hbs h2
    clear h1 h2 hf1 hf2
    rcases h with ⟨rfl, h⟩
    · refine rCatch F hT [] (0, 9, 12, 13) [] rfl ?_ ⟨by decide, by decide⟩ (by decide) q_96 (List.mem_of_getElem? (i := 0) rfl) (fun q6 => ?_)
      · intro z hz
        cases hz
      · skip
        refine lv_astore_n (lv' := [(3, .ref q6), (0, .ref v0), (1, .int v1), (2, .ref v2)]) hx hb dL_dark_12 rfl hl (by decide) rfl (fun ls hl9 => ?_)
        replace hl := hl9
        clear hl9
        refine lv_iconst (v := (1 : Int32)) hx hb dL_dark_13 (by decide) ?_
        refine W.widen (k := MC) (n := MS) (Nat.le.intro hbc) (Nat.le.intro hbs) ?_
        exact retI F hr hW h dL_dark_14
set_option maxHeartbeats 4000000 in
set_option maxRecDepth 100000 in
theorem c_L_escortOf {l : Launch} (hst : l.stackTraces = false) (G : Ctx) (v0 : Nat) (v1 : Int32) (v2 : Nat) (MC MS : Nat) (u : Mem) (K : Int32 → Mem → Prop) (h : w_L_escortOf G v0 v1 v2 MC MS u K) : CtI l yL_escortOf (.codeWith yL_escortOf cL_escortOf 4 (some .int) [(0, 9, 12, 13)]) 7 123 MC MS G [.ref v0, .int v1, .ref v2] u K := by
  refine entW (by first | decide | decide +kernel) hst (by first | decide | exact Nat.le_of_ble_eq_true rfl) (fun p e s m below meth c ls F hr hT hW hl => ?_)
  have F : Fx p l s m ([.ref v0, .int v1, .ref v2]).toArray meth c cL_escortOf 4 RL G := F
  have hl : lv_has ls 4 [(0, .ref v0), (1, .int v1), (2, .ref v2)] := hl
  have hx := F.1.1
  have hb := F.1.2.1
  have hbc : 0 + MC = MC := Nat.zero_add _
  have hbs : 0 + MS = MS := Nat.zero_add _
  unfold w_L_escortOf at h
  refine lv_aload_n hx hb dL_escortOf_0 rfl (lv_at hl 2 rfl) ?_
  refine lv_iconst (v := (0 : Int32)) hx hb dL_escortOf_1 (by decide) ?_
  refine lv_aload_n hx hb dL_escortOf_2 rfl (lv_at hl 0 rfl) ?_
  refine lv_iload_n hx hb dL_escortOf_3 rfl (lv_at hl 1 rfl) ?_
  obtain ⟨c3, b4, h1, h2, h⟩ := h
  have hf1 := bdf hbc h1
  have hf2 := bdf hbs h2
  obtain ⟨hob, h⟩ := h
  refine cX (runX (n := 1) (As := [.int v1]) (rest := [.int (0 : Int32), .ref v2]) F hW (c_X5_escortOf F.2.2.2 G v0 v1 c3 b4 u _ _ h) hob (ci := 6) rfl q_490 q_491 q_492 q_2 q_493 rfl (by decide +kernel) ⟨Nat.le_of_ble_eq_true rfl, Nat.le_of_ble_eq_true rfl⟩ dL_escortOf_4 rfl hl.1 (Nat.le_of_ble_eq_true rfl) ⟨hf1, hf2⟩) hW (fun r2 u1 h9 H locs hW => ?_) (fun E u1 h9 H locs hW => ?_)
  · replace h := h9
    clear h9
    replace hbc := bdg hbc h1
    replace hbs := bdg hbs h2
    clear h1 h2 hf1 hf2
    refine lv_i2l hx hb dL_escortOf_7 rfl ?_
    refine rJast F hW h.1 h.2.1 dL_escortOf_8 (fun H locs hW => ?_)
    replace h := h.2.2
    obtain ⟨u5, eu⟩ : ∃ z, z = setJ u1 v2 ((0 : Int32).toNatClampNeg) ((r2).toInt64) := ⟨_, rfl⟩
    rw [← eu] at hW
    replace h := h u5 eu
    clear eu
    refine lv_goto (tgt := 15) hx hb dL_escortOf_9 (by decide) ?_
    refine lv_iconst (v := (0 : Int32)) hx hb dL_escortOf_15 (by decide) ?_
    refine W.widen (k := MC) (n := MS) (Nat.le.intro hbc) (Nat.le.intro hbs) ?_
    exact retI F hr hW h dL_escortOf_16
  · replace h := h9
    clear h9
    replace hbc := bdg hbc h1
    replace hbs := bdg hbs h2
    clear h1 h2 hf1 hf2
    rcases h with ⟨rfl, h⟩
    · refine rCatch F hT [] (0, 9, 12, 13) [] rfl ?_ ⟨by decide, by decide⟩ (by decide) q_96 (List.mem_of_getElem? (i := 0) rfl) (fun q6 => ?_)
      · intro z hz
        cases hz
      · skip
        refine lv_astore_n (lv' := [(3, .ref q6), (0, .ref v0), (1, .int v1), (2, .ref v2)]) hx hb dL_escortOf_12 rfl hl (by decide) rfl (fun ls hl9 => ?_)
        replace hl := hl9
        clear hl9
        refine lv_iconst (v := (1 : Int32)) hx hb dL_escortOf_13 (by decide) ?_
        refine W.widen (k := MC) (n := MS) (Nat.le.intro hbc) (Nat.le.intro hbs) ?_
        exact retI F hr hW h dL_escortOf_14
set_option maxHeartbeats 4000000 in
set_option maxRecDepth 100000 in
theorem c_L_night {l : Launch} (hst : l.stackTraces = false) (G : Ctx) (v0 : Nat) (v1 : Nat) (MC MS : Nat) (u : Mem) (K : Int32 → Mem → Prop) (h : w_L_night G v0 v1 MC MS u K) : CtI l yL_night (.codeWith yL_night cL_night 3 (some .int) [(0, 8, 11, 17)]) 7 149 MC MS G [.ref v0, .ref v1] u K := by
  refine entW (by first | decide | decide +kernel) hst (by first | decide | exact Nat.le_of_ble_eq_true rfl) (fun p e s m below meth c ls F hr hT hW hl => ?_)
  have F : Fx p l s m ([.ref v0, .ref v1]).toArray meth c cL_night 3 RL G := F
  have hl : lv_has ls 3 [(0, .ref v0), (1, .ref v1)] := hl
  have hx := F.1.1
  have hb := F.1.2.1
  have hbc : 0 + MC = MC := Nat.zero_add _
  have hbs : 0 + MS = MS := Nat.zero_add _
  unfold w_L_night at h
  refine lv_aload_n hx hb dL_night_0 rfl (lv_at hl 1 rfl) ?_
  refine lv_iconst (v := (0 : Int32)) hx hb dL_night_1 (by decide) ?_
  refine lv_aload_n hx hb dL_night_2 rfl (lv_at hl 0 rfl) ?_
  obtain ⟨c3, b4, h1, h2, h⟩ := h
  have hf1 := bdf hbc h1
  have hf2 := bdf hbs h2
  obtain ⟨hob, h⟩ := h
  refine cX (runX (n := 0) (As := []) (rest := [.int (0 : Int32), .ref v1]) F hW (c_X5_night F.2.2.2 G v0 c3 b4 u _ _ h) hob (ci := 6) rfl q_396 q_397 q_398 q_2 q_399 rfl (by decide +kernel) ⟨Nat.le_of_ble_eq_true rfl, Nat.le_of_ble_eq_true rfl⟩ dL_night_3 rfl hl.1 (Nat.le_of_ble_eq_true rfl) ⟨hf1, hf2⟩) hW (fun r2 u1 h9 H locs hW => ?_) (fun E u1 h9 H locs hW => ?_)
  · replace h := h9
    clear h9
    replace hbc := bdg hbc h1
    replace hbs := bdg hbs h2
    clear h1 h2 hf1 hf2
    refine lv_i2l hx hb dL_night_6 rfl ?_
    refine rJast F hW h.1 h.2.1 dL_night_7 (fun H locs hW => ?_)
    replace h := h.2.2
    obtain ⟨u5, eu⟩ : ∃ z, z = setJ u1 v1 ((0 : Int32).toNatClampNeg) ((r2).toInt64) := ⟨_, rfl⟩
    rw [← eu] at hW
    replace h := h u5 eu
    clear eu
    refine lv_goto (tgt := 14) hx hb dL_night_8 (by decide) ?_
    refine lv_iconst (v := (0 : Int32)) hx hb dL_night_14 (by decide) ?_
    refine W.widen (k := MC) (n := MS) (Nat.le.intro hbc) (Nat.le.intro hbs) ?_
    exact retI F hr hW h dL_night_15
  · replace h := h9
    clear h9
    replace hbc := bdg hbc h1
    replace hbs := bdg hbs h2
    clear h1 h2 hf1 hf2
    rcases h with ⟨rfl, h⟩
    · refine rCatch F hT [] (0, 8, 11, 17) [] rfl ?_ ⟨by decide, by decide⟩ (by decide) q_98 (List.mem_of_getElem? (i := 2) rfl) (fun q6 => ?_)
      · intro z hz
        cases hz
      · skip
        refine lv_astore_n (lv' := [(2, .ref q6), (0, .ref v0), (1, .ref v1)]) hx hb dL_night_11 rfl hl (by decide) rfl (fun ls hl9 => ?_)
        replace hl := hl9
        clear hl9
        refine lv_iconst (v := (1 : Int32)) hx hb dL_night_12 (by decide) ?_
        refine W.widen (k := MC) (n := MS) (Nat.le.intro hbc) (Nat.le.intro hbs) ?_
        exact retI F hr hW h dL_night_13
set_option maxHeartbeats 4000000 in
set_option maxRecDepth 100000 in
theorem c_L_pass {l : Launch} (hst : l.stackTraces = false) (G : Ctx) (v0 : Nat) (v1 : Int32) (v2 : Nat) (MC MS : Nat) (u : Mem) (K : Int32 → Mem → Prop) (h : w_L_pass G v0 v1 v2 MC MS u K) : CtI l yL_pass (.codeWith yL_pass cL_pass 4 (some .int) [(0, 9, 12, 15), (0, 9, 15, 17)]) 11 286 MC MS G [.ref v0, .int v1, .ref v2] u K := by
  refine entW (by first | decide | decide +kernel) hst (by first | decide | exact Nat.le_of_ble_eq_true rfl) (fun p e s m below meth c ls F hr hT hW hl => ?_)
  have F : Fx p l s m ([.ref v0, .int v1, .ref v2]).toArray meth c cL_pass 4 RL G := F
  have hl : lv_has ls 4 [(0, .ref v0), (1, .int v1), (2, .ref v2)] := hl
  have hx := F.1.1
  have hb := F.1.2.1
  have hbc : 0 + MC = MC := Nat.zero_add _
  have hbs : 0 + MS = MS := Nat.zero_add _
  unfold w_L_pass at h
  refine lv_aload_n hx hb dL_pass_0 rfl (lv_at hl 2 rfl) ?_
  refine lv_iconst (v := (0 : Int32)) hx hb dL_pass_1 (by decide) ?_
  refine lv_aload_n hx hb dL_pass_2 rfl (lv_at hl 0 rfl) ?_
  refine lv_iload_n hx hb dL_pass_3 rfl (lv_at hl 1 rfl) ?_
  obtain ⟨c3, b4, h1, h2, h⟩ := h
  have hf1 := bdf hbc h1
  have hf2 := bdf hbs h2
  obtain ⟨hob, h⟩ := h
  refine cX (runX (n := 1) (As := [.int v1]) (rest := [.int (0 : Int32), .ref v2]) F hW (c_X5_pass F.2.2.2 G v0 v1 c3 b4 u _ _ h) hob (ci := 6) rfl q_277 q_278 q_279 q_2 q_280 rfl (by decide +kernel) ⟨Nat.le_of_ble_eq_true rfl, Nat.le_of_ble_eq_true rfl⟩ dL_pass_4 rfl hl.1 (Nat.le_of_ble_eq_true rfl) ⟨hf1, hf2⟩) hW (fun r2 u1 h9 H locs hW => ?_) (fun E u1 h9 H locs hW => ?_)
  · replace h := h9
    clear h9
    replace hbc := bdg hbc h1
    replace hbs := bdg hbs h2
    clear h1 h2 hf1 hf2
    refine lv_i2l hx hb dL_pass_7 rfl ?_
    refine rJast F hW h.1 h.2.1 dL_pass_8 (fun H locs hW => ?_)
    replace h := h.2.2
    obtain ⟨u5, eu⟩ : ∃ z, z = setJ u1 v2 ((0 : Int32).toNatClampNeg) ((r2).toInt64) := ⟨_, rfl⟩
    rw [← eu] at hW
    replace h := h u5 eu
    clear eu
    refine lv_goto (tgt := 18) hx hb dL_pass_9 (by decide) ?_
    refine lv_iconst (v := (0 : Int32)) hx hb dL_pass_18 (by decide) ?_
    refine W.widen (k := MC) (n := MS) (Nat.le.intro hbc) (Nat.le.intro hbs) ?_
    exact retI F hr hW h dL_pass_19
  · replace h := h9
    clear h9
    replace hbc := bdg hbc h1
    replace hbs := bdg hbs h2
    clear h1 h2 hf1 hf2
    rcases h with ⟨rfl, h⟩ | ⟨rfl, h⟩
    · refine rCatch F hT [] (0, 9, 12, 15) [(0, 9, 15, 17)] rfl ?_ ⟨by decide, by decide⟩ (by decide) q_97 (List.mem_of_getElem? (i := 1) rfl) (fun q6 => ?_)
      · intro z hz
        cases hz
      · skip
        refine lv_astore_n (lv' := [(3, .ref q6), (0, .ref v0), (1, .int v1), (2, .ref v2)]) hx hb dL_pass_12 rfl hl (by decide) rfl (fun ls hl9 => ?_)
        replace hl := hl9
        clear hl9
        refine lv_iconst (v := (1 : Int32)) hx hb dL_pass_13 (by decide) ?_
        refine W.widen (k := MC) (n := MS) (Nat.le.intro hbc) (Nat.le.intro hbs) ?_
        exact retI F hr hW h dL_pass_14
    · refine rCatch F hT [(0, 9, 12, 15)] (0, 9, 15, 17) [] rfl ?_ ⟨by decide, by decide⟩ (by decide) q_98 (List.mem_of_getElem? (i := 2) rfl) (fun q7 => ?_)
      · intro z hz
        simp only [List.mem_cons, List.not_mem_nil, or_false] at hz
        rcases hz with rfl
        · exact ⟨by decide, "java/lang/IllegalArgumentException", q_97, List.mem_of_getElem? (i := 5) rfl⟩
      · skip
        refine lv_astore_n (lv' := [(3, .ref q7), (0, .ref v0), (1, .int v1), (2, .ref v2)]) hx hb dL_pass_15 rfl hl (by decide) rfl (fun ls hl9 => ?_)
        replace hl := hl9
        clear hl9
        refine lv_iconst (v := (2 : Int32)) hx hb dL_pass_16 (by decide) ?_
        refine W.widen (k := MC) (n := MS) (Nat.le.intro hbc) (Nat.le.intro hbs) ?_
        exact retI F hr hW h dL_pass_17
set_option maxHeartbeats 4000000 in
set_option maxRecDepth 100000 in
theorem c_L_pay {l : Launch} (hst : l.stackTraces = false) (G : Ctx) (v0 : Nat) (v1 : Int32) (v2 : Int32) (v3 : Nat) (MC MS : Nat) (u : Mem) (K : Int32 → Mem → Prop) (h : w_L_pay G v0 v1 v2 v3 MC MS u K) : CtI l yL_pay (.codeWith yL_pay cL_pay 5 (some .int) [(0, 10, 13, 13), (0, 10, 17, 15), (0, 10, 21, 17)]) 7 123 MC MS G [.ref v0, .int v1, .int v2, .ref v3] u K := by
  refine entW (by first | decide | decide +kernel) hst (by first | decide | exact Nat.le_of_ble_eq_true rfl) (fun p e s m below meth c ls F hr hT hW hl => ?_)
  have F : Fx p l s m ([.ref v0, .int v1, .int v2, .ref v3]).toArray meth c cL_pay 5 RL G := F
  have hl : lv_has ls 5 [(0, .ref v0), (1, .int v1), (2, .int v2), (3, .ref v3)] := hl
  have hx := F.1.1
  have hb := F.1.2.1
  have hbc : 0 + MC = MC := Nat.zero_add _
  have hbs : 0 + MS = MS := Nat.zero_add _
  unfold w_L_pay at h
  refine lv_aload_n hx hb dL_pay_0 rfl (lv_at hl 3 rfl) ?_
  refine lv_iconst (v := (0 : Int32)) hx hb dL_pay_1 (by decide) ?_
  refine lv_aload_n hx hb dL_pay_2 rfl (lv_at hl 0 rfl) ?_
  refine lv_iload_n hx hb dL_pay_3 rfl (lv_at hl 1 rfl) ?_
  refine lv_iload_n hx hb dL_pay_4 rfl (lv_at hl 2 rfl) ?_
  obtain ⟨c3, b4, h1, h2, h⟩ := h
  have hf1 := bdf hbc h1
  have hf2 := bdf hbs h2
  obtain ⟨hob, h⟩ := h
  refine cX (runX (n := 2) (As := [.int v1, .int v2]) (rest := [.int (0 : Int32), .ref v3]) F hW (c_X5_pay F.2.2.2 G v0 v1 v2 c3 b4 u _ _ h) hob (ci := 6) rfl q_99 q_100 q_101 q_2 q_102 rfl (by decide +kernel) ⟨Nat.le_of_ble_eq_true rfl, Nat.le_of_ble_eq_true rfl⟩ dL_pay_5 rfl hl.1 (Nat.le_of_ble_eq_true rfl) ⟨hf1, hf2⟩) hW (fun r2 u1 h9 H locs hW => ?_) (fun E u1 h9 H locs hW => ?_)
  · replace h := h9
    clear h9
    replace hbc := bdg hbc h1
    replace hbs := bdg hbs h2
    clear h1 h2 hf1 hf2
    refine lv_i2l hx hb dL_pay_8 rfl ?_
    refine rJast F hW h.1 h.2.1 dL_pay_9 (fun H locs hW => ?_)
    replace h := h.2.2
    obtain ⟨u5, eu⟩ : ∃ z, z = setJ u1 v3 ((0 : Int32).toNatClampNeg) ((r2).toInt64) := ⟨_, rfl⟩
    rw [← eu] at hW
    replace h := h u5 eu
    clear eu
    refine lv_goto (tgt := 25) hx hb dL_pay_10 (by decide) ?_
    refine lv_iconst (v := (0 : Int32)) hx hb dL_pay_25 (by decide) ?_
    refine W.widen (k := MC) (n := MS) (Nat.le.intro hbc) (Nat.le.intro hbs) ?_
    exact retI F hr hW h dL_pay_26
  · replace h := h9
    clear h9
    replace hbc := bdg hbc h1
    replace hbs := bdg hbs h2
    clear h1 h2 hf1 hf2
    rcases h with ⟨rfl, h⟩ | ⟨rfl, h⟩ | ⟨rfl, h⟩
    · refine rCatch F hT [] (0, 10, 13, 13) [(0, 10, 17, 15), (0, 10, 21, 17)] rfl ?_ ⟨by decide, by decide⟩ (by decide) q_96 (List.mem_of_getElem? (i := 0) rfl) (fun q6 => ?_)
      · intro z hz
        cases hz
      · skip
        refine lv_astore (lv' := [(4, .ref q6), (0, .ref v0), (1, .int v1), (2, .int v2), (3, .ref v3)]) hx hb dL_pay_13 hl (by decide) rfl (fun ls hl9 => ?_)
        replace hl := hl9
        clear hl9
        refine lv_iconst (v := (1 : Int32)) hx hb dL_pay_15 (by decide) ?_
        refine W.widen (k := MC) (n := MS) (Nat.le.intro hbc) (Nat.le.intro hbs) ?_
        exact retI F hr hW h dL_pay_16
    · refine rCatch F hT [(0, 10, 13, 13)] (0, 10, 17, 15) [(0, 10, 21, 17)] rfl ?_ ⟨by decide, by decide⟩ (by decide) q_97 (List.mem_of_getElem? (i := 1) rfl) (fun q7 => ?_)
      · intro z hz
        simp only [List.mem_cons, List.not_mem_nil, or_false] at hz
        rcases hz with rfl
        · exact ⟨by decide, "java/lang/IndexOutOfBoundsException", q_96, List.mem_of_getElem? (i := 2) rfl⟩
      · skip
        refine lv_astore (lv' := [(4, .ref q7), (0, .ref v0), (1, .int v1), (2, .int v2), (3, .ref v3)]) hx hb dL_pay_17 hl (by decide) rfl (fun ls hl9 => ?_)
        replace hl := hl9
        clear hl9
        refine lv_iconst (v := (2 : Int32)) hx hb dL_pay_19 (by decide) ?_
        refine W.widen (k := MC) (n := MS) (Nat.le.intro hbc) (Nat.le.intro hbs) ?_
        exact retI F hr hW h dL_pay_20
    · refine rCatch F hT [(0, 10, 13, 13), (0, 10, 17, 15)] (0, 10, 21, 17) [] rfl ?_ ⟨by decide, by decide⟩ (by decide) q_98 (List.mem_of_getElem? (i := 2) rfl) (fun q8 => ?_)
      · intro z hz
        simp only [List.mem_cons, List.not_mem_nil, or_false] at hz
        rcases hz with rfl | rfl
        · exact ⟨by decide, "java/lang/IndexOutOfBoundsException", q_96, List.mem_of_getElem? (i := 4) rfl⟩
        · exact ⟨by decide, "java/lang/IllegalArgumentException", q_97, List.mem_of_getElem? (i := 5) rfl⟩
      · skip
        refine lv_astore (lv' := [(4, .ref q8), (0, .ref v0), (1, .int v1), (2, .int v2), (3, .ref v3)]) hx hb dL_pay_21 hl (by decide) rfl (fun ls hl9 => ?_)
        replace hl := hl9
        clear hl9
        refine lv_iconst (v := (3 : Int32)) hx hb dL_pay_23 (by decide) ?_
        refine W.widen (k := MC) (n := MS) (Nat.le.intro hbc) (Nat.le.intro hbs) ?_
        exact retI F hr hW h dL_pay_24
set_option maxHeartbeats 4000000 in
set_option maxRecDepth 100000 in
theorem c_L_place {l : Launch} (hst : l.stackTraces = false) (G : Ctx) (v0 : Nat) (v1 : Int32) (v2 : Int32) (v3 : Nat) (MC MS : Nat) (u : Mem) (K : Int32 → Mem → Prop) (h : w_L_place G v0 v1 v2 v3 MC MS u K) : CtI l yL_place (.codeWith yL_place cL_place 5 (some .int) [(0, 10, 13, 13), (0, 10, 17, 17)]) 7 124 MC MS G [.ref v0, .int v1, .int v2, .ref v3] u K := by
  refine entW (by first | decide | decide +kernel) hst (by first | decide | exact Nat.le_of_ble_eq_true rfl) (fun p e s m below meth c ls F hr hT hW hl => ?_)
  have F : Fx p l s m ([.ref v0, .int v1, .int v2, .ref v3]).toArray meth c cL_place 5 RL G := F
  have hl : lv_has ls 5 [(0, .ref v0), (1, .int v1), (2, .int v2), (3, .ref v3)] := hl
  have hx := F.1.1
  have hb := F.1.2.1
  have hbc : 0 + MC = MC := Nat.zero_add _
  have hbs : 0 + MS = MS := Nat.zero_add _
  unfold w_L_place at h
  refine lv_aload_n hx hb dL_place_0 rfl (lv_at hl 3 rfl) ?_
  refine lv_iconst (v := (0 : Int32)) hx hb dL_place_1 (by decide) ?_
  refine lv_aload_n hx hb dL_place_2 rfl (lv_at hl 0 rfl) ?_
  refine lv_iload_n hx hb dL_place_3 rfl (lv_at hl 1 rfl) ?_
  refine lv_iload_n hx hb dL_place_4 rfl (lv_at hl 2 rfl) ?_
  obtain ⟨c3, b4, h1, h2, h⟩ := h
  have hf1 := bdf hbc h1
  have hf2 := bdf hbs h2
  obtain ⟨hob, h⟩ := h
  refine cX (runX (n := 2) (As := [.int v1, .int v2]) (rest := [.int (0 : Int32), .ref v3]) F hW (c_X5_place F.2.2.2 G v0 v1 v2 c3 b4 u _ _ h) hob (ci := 6) rfl q_178 q_179 q_180 q_2 q_181 rfl (by decide +kernel) ⟨Nat.le_of_ble_eq_true rfl, Nat.le_of_ble_eq_true rfl⟩ dL_place_5 rfl hl.1 (Nat.le_of_ble_eq_true rfl) ⟨hf1, hf2⟩) hW (fun r2 u1 h9 H locs hW => ?_) (fun E u1 h9 H locs hW => ?_)
  · replace h := h9
    clear h9
    replace hbc := bdg hbc h1
    replace hbs := bdg hbs h2
    clear h1 h2 hf1 hf2
    refine lv_i2l hx hb dL_place_8 rfl ?_
    refine rJast F hW h.1 h.2.1 dL_place_9 (fun H locs hW => ?_)
    replace h := h.2.2
    obtain ⟨u5, eu⟩ : ∃ z, z = setJ u1 v3 ((0 : Int32).toNatClampNeg) ((r2).toInt64) := ⟨_, rfl⟩
    rw [← eu] at hW
    replace h := h u5 eu
    clear eu
    refine lv_goto (tgt := 21) hx hb dL_place_10 (by decide) ?_
    refine lv_iconst (v := (0 : Int32)) hx hb dL_place_21 (by decide) ?_
    refine W.widen (k := MC) (n := MS) (Nat.le.intro hbc) (Nat.le.intro hbs) ?_
    exact retI F hr hW h dL_place_22
  · replace h := h9
    clear h9
    replace hbc := bdg hbc h1
    replace hbs := bdg hbs h2
    clear h1 h2 hf1 hf2
    rcases h with ⟨rfl, h⟩ | ⟨rfl, h⟩
    · refine rCatch F hT [] (0, 10, 13, 13) [(0, 10, 17, 17)] rfl ?_ ⟨by decide, by decide⟩ (by decide) q_96 (List.mem_of_getElem? (i := 0) rfl) (fun q6 => ?_)
      · intro z hz
        cases hz
      · skip
        refine lv_astore (lv' := [(4, .ref q6), (0, .ref v0), (1, .int v1), (2, .int v2), (3, .ref v3)]) hx hb dL_place_13 hl (by decide) rfl (fun ls hl9 => ?_)
        replace hl := hl9
        clear hl9
        refine lv_iconst (v := (1 : Int32)) hx hb dL_place_15 (by decide) ?_
        refine W.widen (k := MC) (n := MS) (Nat.le.intro hbc) (Nat.le.intro hbs) ?_
        exact retI F hr hW h dL_place_16
    · refine rCatch F hT [(0, 10, 13, 13)] (0, 10, 17, 17) [] rfl ?_ ⟨by decide, by decide⟩ (by decide) q_98 (List.mem_of_getElem? (i := 2) rfl) (fun q7 => ?_)
      · intro z hz
        simp only [List.mem_cons, List.not_mem_nil, or_false] at hz
        rcases hz with rfl
        · exact ⟨by decide, "java/lang/IndexOutOfBoundsException", q_96, List.mem_of_getElem? (i := 4) rfl⟩
      · skip
        refine lv_astore (lv' := [(4, .ref q7), (0, .ref v0), (1, .int v1), (2, .int v2), (3, .ref v3)]) hx hb dL_place_17 hl (by decide) rfl (fun ls hl9 => ?_)
        replace hl := hl9
        clear hl9
        refine lv_iconst (v := (2 : Int32)) hx hb dL_place_19 (by decide) ?_
        refine W.widen (k := MC) (n := MS) (Nat.le.intro hbc) (Nat.le.intro hbs) ?_
        exact retI F hr hW h dL_place_20
set_option maxHeartbeats 4000000 in
set_option maxRecDepth 100000 in
theorem c_L_purse {l : Launch} (hst : l.stackTraces = false) (G : Ctx) (v0 : Nat) (v1 : Int32) (v2 : Nat) (MC MS : Nat) (u : Mem) (K : Int32 → Mem → Prop) (h : w_L_purse G v0 v1 v2 MC MS u K) : CtI l yL_purse (.codeWith yL_purse cL_purse 4 (some .int) [(0, 9, 12, 13)]) 7 122 MC MS G [.ref v0, .int v1, .ref v2] u K := by
  refine entW (by first | decide | decide +kernel) hst (by first | decide | exact Nat.le_of_ble_eq_true rfl) (fun p e s m below meth c ls F hr hT hW hl => ?_)
  have F : Fx p l s m ([.ref v0, .int v1, .ref v2]).toArray meth c cL_purse 4 RL G := F
  have hl : lv_has ls 4 [(0, .ref v0), (1, .int v1), (2, .ref v2)] := hl
  have hx := F.1.1
  have hb := F.1.2.1
  have hbc : 0 + MC = MC := Nat.zero_add _
  have hbs : 0 + MS = MS := Nat.zero_add _
  unfold w_L_purse at h
  refine lv_aload_n hx hb dL_purse_0 rfl (lv_at hl 2 rfl) ?_
  refine lv_iconst (v := (0 : Int32)) hx hb dL_purse_1 (by decide) ?_
  refine lv_aload_n hx hb dL_purse_2 rfl (lv_at hl 0 rfl) ?_
  refine lv_iload_n hx hb dL_purse_3 rfl (lv_at hl 1 rfl) ?_
  obtain ⟨c3, b4, h1, h2, h⟩ := h
  have hf1 := bdf hbc h1
  have hf2 := bdf hbs h2
  obtain ⟨hob, h⟩ := h
  refine cX (runX (n := 1) (As := [.int v1]) (rest := [.int (0 : Int32), .ref v2]) F hW (c_X5_purse F.2.2.2 G v0 v1 c3 b4 u _ _ h) hob (ci := 6) rfl q_460 q_461 q_462 q_2 q_463 rfl (by decide +kernel) ⟨Nat.le_of_ble_eq_true rfl, Nat.le_of_ble_eq_true rfl⟩ dL_purse_4 rfl hl.1 (Nat.le_of_ble_eq_true rfl) ⟨hf1, hf2⟩) hW (fun r2 u1 h9 H locs hW => ?_) (fun E u1 h9 H locs hW => ?_)
  · replace h := h9
    clear h9
    replace hbc := bdg hbc h1
    replace hbs := bdg hbs h2
    clear h1 h2 hf1 hf2
    refine lv_i2l hx hb dL_purse_7 rfl ?_
    refine rJast F hW h.1 h.2.1 dL_purse_8 (fun H locs hW => ?_)
    replace h := h.2.2
    obtain ⟨u5, eu⟩ : ∃ z, z = setJ u1 v2 ((0 : Int32).toNatClampNeg) ((r2).toInt64) := ⟨_, rfl⟩
    rw [← eu] at hW
    replace h := h u5 eu
    clear eu
    refine lv_goto (tgt := 15) hx hb dL_purse_9 (by decide) ?_
    refine lv_iconst (v := (0 : Int32)) hx hb dL_purse_15 (by decide) ?_
    refine W.widen (k := MC) (n := MS) (Nat.le.intro hbc) (Nat.le.intro hbs) ?_
    exact retI F hr hW h dL_purse_16
  · replace h := h9
    clear h9
    replace hbc := bdg hbc h1
    replace hbs := bdg hbs h2
    clear h1 h2 hf1 hf2
    rcases h with ⟨rfl, h⟩
    · refine rCatch F hT [] (0, 9, 12, 13) [] rfl ?_ ⟨by decide, by decide⟩ (by decide) q_96 (List.mem_of_getElem? (i := 0) rfl) (fun q6 => ?_)
      · intro z hz
        cases hz
      · skip
        refine lv_astore_n (lv' := [(3, .ref q6), (0, .ref v0), (1, .int v1), (2, .ref v2)]) hx hb dL_purse_12 rfl hl (by decide) rfl (fun ls hl9 => ?_)
        replace hl := hl9
        clear hl9
        refine lv_iconst (v := (1 : Int32)) hx hb dL_purse_13 (by decide) ?_
        refine W.widen (k := MC) (n := MS) (Nat.le.intro hbc) (Nat.le.intro hbs) ?_
        exact retI F hr hW h dL_purse_14
set_option maxHeartbeats 4000000 in
set_option maxRecDepth 100000 in
theorem c_L_rank {l : Launch} (hst : l.stackTraces = false) (G : Ctx) (v0 : Nat) (v1 : Int32) (v2 : Nat) (MC MS : Nat) (u : Mem) (K : Int32 → Mem → Prop) (h : w_L_rank G v0 v1 v2 MC MS u K) : CtI l yL_rank (.codeWith yL_rank cL_rank 4 (some .int) [(0, 9, 12, 13)]) 7 122 MC MS G [.ref v0, .int v1, .ref v2] u K := by
  refine entW (by first | decide | decide +kernel) hst (by first | decide | exact Nat.le_of_ble_eq_true rfl) (fun p e s m below meth c ls F hr hT hW hl => ?_)
  have F : Fx p l s m ([.ref v0, .int v1, .ref v2]).toArray meth c cL_rank 4 RL G := F
  have hl : lv_has ls 4 [(0, .ref v0), (1, .int v1), (2, .ref v2)] := hl
  have hx := F.1.1
  have hb := F.1.2.1
  have hbc : 0 + MC = MC := Nat.zero_add _
  have hbs : 0 + MS = MS := Nat.zero_add _
  unfold w_L_rank at h
  refine lv_aload_n hx hb dL_rank_0 rfl (lv_at hl 2 rfl) ?_
  refine lv_iconst (v := (0 : Int32)) hx hb dL_rank_1 (by decide) ?_
  refine lv_aload_n hx hb dL_rank_2 rfl (lv_at hl 0 rfl) ?_
  refine lv_iload_n hx hb dL_rank_3 rfl (lv_at hl 1 rfl) ?_
  obtain ⟨c3, b4, h1, h2, h⟩ := h
  have hf1 := bdf hbc h1
  have hf2 := bdf hbs h2
  obtain ⟨hob, h⟩ := h
  refine cX (runX (n := 1) (As := [.int v1]) (rest := [.int (0 : Int32), .ref v2]) F hW (c_X5_rank F.2.2.2 G v0 v1 c3 b4 u _ _ h) hob (ci := 6) rfl q_523 q_524 q_525 q_2 q_526 rfl (by decide +kernel) ⟨Nat.le_of_ble_eq_true rfl, Nat.le_of_ble_eq_true rfl⟩ dL_rank_4 rfl hl.1 (Nat.le_of_ble_eq_true rfl) ⟨hf1, hf2⟩) hW (fun r2 u1 h9 H locs hW => ?_) (fun E u1 h9 H locs hW => ?_)
  · replace h := h9
    clear h9
    replace hbc := bdg hbc h1
    replace hbs := bdg hbs h2
    clear h1 h2 hf1 hf2
    refine lv_i2l hx hb dL_rank_7 rfl ?_
    refine rJast F hW h.1 h.2.1 dL_rank_8 (fun H locs hW => ?_)
    replace h := h.2.2
    obtain ⟨u5, eu⟩ : ∃ z, z = setJ u1 v2 ((0 : Int32).toNatClampNeg) ((r2).toInt64) := ⟨_, rfl⟩
    rw [← eu] at hW
    replace h := h u5 eu
    clear eu
    refine lv_goto (tgt := 15) hx hb dL_rank_9 (by decide) ?_
    refine lv_iconst (v := (0 : Int32)) hx hb dL_rank_15 (by decide) ?_
    refine W.widen (k := MC) (n := MS) (Nat.le.intro hbc) (Nat.le.intro hbs) ?_
    exact retI F hr hW h dL_rank_16
  · replace h := h9
    clear h9
    replace hbc := bdg hbc h1
    replace hbs := bdg hbs h2
    clear h1 h2 hf1 hf2
    rcases h with ⟨rfl, h⟩
    · refine rCatch F hT [] (0, 9, 12, 13) [] rfl ?_ ⟨by decide, by decide⟩ (by decide) q_96 (List.mem_of_getElem? (i := 0) rfl) (fun q6 => ?_)
      · intro z hz
        cases hz
      · skip
        refine lv_astore_n (lv' := [(3, .ref q6), (0, .ref v0), (1, .int v1), (2, .ref v2)]) hx hb dL_rank_12 rfl hl (by decide) rfl (fun ls hl9 => ?_)
        replace hl := hl9
        clear hl9
        refine lv_iconst (v := (1 : Int32)) hx hb dL_rank_13 (by decide) ?_
        refine W.widen (k := MC) (n := MS) (Nat.le.intro hbc) (Nat.le.intro hbs) ?_
        exact retI F hr hW h dL_rank_14
set_option maxHeartbeats 4000000 in
set_option maxRecDepth 100000 in
theorem c_L_setStreet {l : Launch} (hst : l.stackTraces = false) (G : Ctx) (v0 : Nat) (v1 : Int32) (v2 : Int32) (v3 : Int32) (v4 : Nat) (MC MS : Nat) (u : Mem) (K : Int32 → Mem → Prop) (h : w_L_setStreet G v0 v1 v2 v3 v4 MC MS u K) : CtI l yL_setStreet (.codeWith yL_setStreet cL_setStreet 6 (some .int) [(0, 12, 15, 13), (0, 12, 19, 15)]) 7 125 MC MS G [.ref v0, .int v1, .int v2, .int v3, .ref v4] u K := by
  refine entW (by first | decide | decide +kernel) hst (by first | decide | exact Nat.le_of_ble_eq_true rfl) (fun p e s m below meth c ls F hr hT hW hl => ?_)
  have F : Fx p l s m ([.ref v0, .int v1, .int v2, .int v3, .ref v4]).toArray meth c cL_setStreet 6 RL G := F
  have hl : lv_has ls 6 [(0, .ref v0), (1, .int v1), (2, .int v2), (3, .int v3), (4, .ref v4)] := hl
  have hx := F.1.1
  have hb := F.1.2.1
  have hbc : 0 + MC = MC := Nat.zero_add _
  have hbs : 0 + MS = MS := Nat.zero_add _
  unfold w_L_setStreet at h
  refine lv_aload hx hb dL_setStreet_0 (lv_at hl 4 rfl) ?_
  refine lv_iconst (v := (0 : Int32)) hx hb dL_setStreet_2 (by decide) ?_
  refine lv_aload_n hx hb dL_setStreet_3 rfl (lv_at hl 0 rfl) ?_
  refine lv_iload_n hx hb dL_setStreet_4 rfl (lv_at hl 1 rfl) ?_
  refine lv_iload_n hx hb dL_setStreet_5 rfl (lv_at hl 2 rfl) ?_
  refine lv_iload_n hx hb dL_setStreet_6 rfl (lv_at hl 3 rfl) ?_
  obtain ⟨c3, b4, h1, h2, h⟩ := h
  have hf1 := bdf hbc h1
  have hf2 := bdf hbs h2
  obtain ⟨hob, h⟩ := h
  refine cX (runX (n := 3) (As := [.int v1, .int v2, .int v3]) (rest := [.int (0 : Int32), .ref v4]) F hW (c_X5_setStreet F.2.2.2 G v0 v1 v2 v3 c3 b4 u _ _ h) hob (ci := 6) rfl q_137 q_138 q_139 q_2 q_140 rfl (by decide +kernel) ⟨Nat.le_of_ble_eq_true rfl, Nat.le_of_ble_eq_true rfl⟩ dL_setStreet_7 rfl hl.1 (Nat.le_of_ble_eq_true rfl) ⟨hf1, hf2⟩) hW (fun r2 u1 h9 H locs hW => ?_) (fun E u1 h9 H locs hW => ?_)
  · replace h := h9
    clear h9
    replace hbc := bdg hbc h1
    replace hbs := bdg hbs h2
    clear h1 h2 hf1 hf2
    refine lv_i2l hx hb dL_setStreet_10 rfl ?_
    refine rJast F hW h.1 h.2.1 dL_setStreet_11 (fun H locs hW => ?_)
    replace h := h.2.2
    obtain ⟨u5, eu⟩ : ∃ z, z = setJ u1 v4 ((0 : Int32).toNatClampNeg) ((r2).toInt64) := ⟨_, rfl⟩
    rw [← eu] at hW
    replace h := h u5 eu
    clear eu
    refine lv_goto (tgt := 23) hx hb dL_setStreet_12 (by decide) ?_
    refine lv_iconst (v := (0 : Int32)) hx hb dL_setStreet_23 (by decide) ?_
    refine W.widen (k := MC) (n := MS) (Nat.le.intro hbc) (Nat.le.intro hbs) ?_
    exact retI F hr hW h dL_setStreet_24
  · replace h := h9
    clear h9
    replace hbc := bdg hbc h1
    replace hbs := bdg hbs h2
    clear h1 h2 hf1 hf2
    rcases h with ⟨rfl, h⟩ | ⟨rfl, h⟩
    · refine rCatch F hT [] (0, 12, 15, 13) [(0, 12, 19, 15)] rfl ?_ ⟨by decide, by decide⟩ (by decide) q_96 (List.mem_of_getElem? (i := 0) rfl) (fun q6 => ?_)
      · intro z hz
        cases hz
      · skip
        refine lv_astore (lv' := [(5, .ref q6), (0, .ref v0), (1, .int v1), (2, .int v2), (3, .int v3), (4, .ref v4)]) hx hb dL_setStreet_15 hl (by decide) rfl (fun ls hl9 => ?_)
        replace hl := hl9
        clear hl9
        refine lv_iconst (v := (1 : Int32)) hx hb dL_setStreet_17 (by decide) ?_
        refine W.widen (k := MC) (n := MS) (Nat.le.intro hbc) (Nat.le.intro hbs) ?_
        exact retI F hr hW h dL_setStreet_18
    · refine rCatch F hT [(0, 12, 15, 13)] (0, 12, 19, 15) [] rfl ?_ ⟨by decide, by decide⟩ (by decide) q_97 (List.mem_of_getElem? (i := 1) rfl) (fun q7 => ?_)
      · intro z hz
        simp only [List.mem_cons, List.not_mem_nil, or_false] at hz
        rcases hz with rfl
        · exact ⟨by decide, "java/lang/IndexOutOfBoundsException", q_96, List.mem_of_getElem? (i := 2) rfl⟩
      · skip
        refine lv_astore (lv' := [(5, .ref q7), (0, .ref v0), (1, .int v1), (2, .int v2), (3, .int v3), (4, .ref v4)]) hx hb dL_setStreet_19 hl (by decide) rfl (fun ls hl9 => ?_)
        replace hl := hl9
        clear hl9
        refine lv_iconst (v := (2 : Int32)) hx hb dL_setStreet_21 (by decide) ?_
        refine W.widen (k := MC) (n := MS) (Nat.le.intro hbc) (Nat.le.intro hbs) ?_
        exact retI F hr hW h dL_setStreet_22
set_option maxHeartbeats 4000000 in
set_option maxRecDepth 100000 in
theorem t_L_shows_18 {p : Program} {l : Launch} {e : Env} {s : State} {m : MethodId} {below : List Frame} {meth : Method} {c : Code} {G : Ctx} (v0 : Nat) (v1 : Int32) (v2 : Int32) (v3 : Int32) (v4 : Nat) (MC MS : Nat) (F : Fx p l s m ([.ref v0, .int v1, .int v2, .int v3, .ref v4]).toArray meth c cL_shows 6 RL G) (hr : meth.sig.returnType = (some .int)) (hT : c.exceptionTable.toList = Jvm.tableOf [(0, 19, 22, 13)]) (K : Int32 → Mem → Prop) : ∀ (s0 : Int64) (s1 : Int32) (s2 : Nat) (mc ms : Nat) (u : Mem) (H : Heap) (locs : List Loc) (cells slots : Nat) (ls : Array Slot), w_L_shows_18 G v0 v1 v2 v3 v4 K s0 s1 s2 mc ms u → Wd G u s H locs → lv_has ls 6 [(0, .ref v0), (1, .int v1), (2, .int v2), (3, .int v3), (4, .ref v4)] → cells + mc = MC → slots + ms = MS → W p l e { frames := 7, cells := MC, slots := MS, locals := 123 } s m ([.ref v0, .int v1, .int v2, .int v3, .ref v4]).toArray below meth c H locs cells slots (MQ below (va_Qi K (fun u' t => Wp G u' t.heap) (Ab G)) ([.ref v0, .int v1, .int v2, .int v3, .ref v4]).toArray s MC MS (Ab G)) (F0 m 18 ls [.long s0, .int s1, .ref s2]) := by
  have hx := F.1.1
  have hb := F.1.2.1
  intro s0 s1 s2 mc ms u H locs cells slots ls h hW hl hbc hbs
  unfold w_L_shows_18 at h
  refine rJast F hW h.1 h.2.1 dL_shows_18 (fun H locs hW => ?_)
  replace h := h.2.2
  obtain ⟨u9, eu⟩ : ∃ z, z = setJ u s2 (s1.toNatClampNeg) s0 := ⟨_, rfl⟩
  rw [← eu] at hW
  replace h := h u9 eu
  clear eu
  refine lv_goto (tgt := 26) hx hb dL_shows_19 (by decide) ?_
  refine lv_iconst (v := (0 : Int32)) hx hb dL_shows_26 (by decide) ?_
  refine W.widen (k := MC) (n := MS) (Nat.le.intro hbc) (Nat.le.intro hbs) ?_
  exact retI F hr hW h dL_shows_27
set_option maxHeartbeats 4000000 in
set_option maxRecDepth 100000 in
theorem c_L_shows {l : Launch} (hst : l.stackTraces = false) (G : Ctx) (v0 : Nat) (v1 : Int32) (v2 : Int32) (v3 : Int32) (v4 : Nat) (MC MS : Nat) (u : Mem) (K : Int32 → Mem → Prop) (h : w_L_shows G v0 v1 v2 v3 v4 MC MS u K) : CtI l yL_shows (.codeWith yL_shows cL_shows 6 (some .int) [(0, 19, 22, 13)]) 7 123 MC MS G [.ref v0, .int v1, .int v2, .int v3, .ref v4] u K := by
  refine entW (by first | decide | decide +kernel) hst (by first | decide | exact Nat.le_of_ble_eq_true rfl) (fun p e s m below meth c ls F hr hT hW hl => ?_)
  have F : Fx p l s m ([.ref v0, .int v1, .int v2, .int v3, .ref v4]).toArray meth c cL_shows 6 RL G := F
  have hl : lv_has ls 6 [(0, .ref v0), (1, .int v1), (2, .int v2), (3, .int v3), (4, .ref v4)] := hl
  have hx := F.1.1
  have hb := F.1.2.1
  have hbc : 0 + MC = MC := Nat.zero_add _
  have hbs : 0 + MS = MS := Nat.zero_add _
  unfold w_L_shows at h
  refine lv_aload hx hb dL_shows_0 (lv_at hl 4 rfl) ?_
  refine lv_iconst (v := (0 : Int32)) hx hb dL_shows_2 (by decide) ?_
  refine lv_aload_n hx hb dL_shows_3 rfl (lv_at hl 0 rfl) ?_
  refine lv_iload_n hx hb dL_shows_4 rfl (lv_at hl 1 rfl) ?_
  refine lv_iload_n hx hb dL_shows_5 rfl (lv_at hl 2 rfl) ?_
  refine lv_iload_n hx hb dL_shows_6 rfl (lv_at hl 3 rfl) ?_
  obtain ⟨c3, b4, h1, h2, h⟩ := h
  have hf1 := bdf hbc h1
  have hf2 := bdf hbs h2
  obtain ⟨hob, h⟩ := h
  refine cX (runX (n := 3) (As := [.int v1, .int v2, .int v3]) (rest := [.int (0 : Int32), .ref v4]) F hW (c_X5_shows F.2.2.2 G v0 v1 v2 v3 c3 b4 u _ _ h) hob (ci := 6) rfl q_557 q_558 q_559 q_2 q_560 rfl (by decide +kernel) ⟨Nat.le_of_ble_eq_true rfl, Nat.le_of_ble_eq_true rfl⟩ dL_shows_7 rfl hl.1 (Nat.le_of_ble_eq_true rfl) ⟨hf1, hf2⟩) hW (fun r2 u1 h9 H locs hW => ?_) (fun E u1 h9 H locs hW => ?_)
  · replace h := h9
    clear h9
    replace hbc := bdg hbc h1
    replace hbs := bdg hbs h2
    clear h1 h2 hf1 hf2
    refine lv_if_eq (tgt := 17) hx hb dL_shows_10 (by decide) (fun hc5 => ?_) (fun hc5 => ?_)
    · have h := h.1 hc5
      refine lv_lconst (v := (0 : Int64)) hx hb dL_shows_17 (by decide) ?_
      exact t_L_shows_18 v0 v1 v2 v3 v4 MC MS F hr hT K (0 : Int64) (0 : Int32) v4 (MC - c3) (MS - b4) u1 _ _ _ _ _ h hW (lv_sub hl [0, 1, 2, 3, 4] rfl) hbc hbs
    · have h := h.2 hc5
      refine lv_lconst (v := (1 : Int64)) hx hb dL_shows_13 (by decide) ?_
      refine lv_goto (tgt := 18) hx hb dL_shows_14 (by decide) ?_
      exact t_L_shows_18 v0 v1 v2 v3 v4 MC MS F hr hT K (1 : Int64) (0 : Int32) v4 (MC - c3) (MS - b4) u1 _ _ _ _ _ h hW (lv_sub hl [0, 1, 2, 3, 4] rfl) hbc hbs
  · replace h := h9
    clear h9
    replace hbc := bdg hbc h1
    replace hbs := bdg hbs h2
    clear h1 h2 hf1 hf2
    rcases h with ⟨rfl, h⟩
    · refine rCatch F hT [] (0, 19, 22, 13) [] rfl ?_ ⟨by decide, by decide⟩ (by decide) q_96 (List.mem_of_getElem? (i := 0) rfl) (fun q6 => ?_)
      · intro z hz
        cases hz
      · skip
        refine lv_astore (lv' := [(5, .ref q6), (0, .ref v0), (1, .int v1), (2, .int v2), (3, .int v3), (4, .ref v4)]) hx hb dL_shows_22 hl (by decide) rfl (fun ls hl9 => ?_)
        replace hl := hl9
        clear hl9
        refine lv_iconst (v := (1 : Int32)) hx hb dL_shows_24 (by decide) ?_
        refine W.widen (k := MC) (n := MS) (Nat.le.intro hbc) (Nat.le.intro hbs) ?_
        exact retI F hr hW h dL_shows_25
set_option maxHeartbeats 4000000 in
set_option maxRecDepth 100000 in
theorem t_L_showsByPapers_18 {p : Program} {l : Launch} {e : Env} {s : State} {m : MethodId} {below : List Frame} {meth : Method} {c : Code} {G : Ctx} (v0 : Nat) (v1 : Int32) (v2 : Int32) (v3 : Int32) (v4 : Nat) (MC MS : Nat) (F : Fx p l s m ([.ref v0, .int v1, .int v2, .int v3, .ref v4]).toArray meth c cL_showsByPapers 6 RL G) (hr : meth.sig.returnType = (some .int)) (hT : c.exceptionTable.toList = Jvm.tableOf [(0, 19, 22, 13)]) (K : Int32 → Mem → Prop) : ∀ (s0 : Int64) (s1 : Int32) (s2 : Nat) (mc ms : Nat) (u : Mem) (H : Heap) (locs : List Loc) (cells slots : Nat) (ls : Array Slot), w_L_showsByPapers_18 G v0 v1 v2 v3 v4 K s0 s1 s2 mc ms u → Wd G u s H locs → lv_has ls 6 [(0, .ref v0), (1, .int v1), (2, .int v2), (3, .int v3), (4, .ref v4)] → cells + mc = MC → slots + ms = MS → W p l e { frames := 7, cells := MC, slots := MS, locals := 123 } s m ([.ref v0, .int v1, .int v2, .int v3, .ref v4]).toArray below meth c H locs cells slots (MQ below (va_Qi K (fun u' t => Wp G u' t.heap) (Ab G)) ([.ref v0, .int v1, .int v2, .int v3, .ref v4]).toArray s MC MS (Ab G)) (F0 m 18 ls [.long s0, .int s1, .ref s2]) := by
  have hx := F.1.1
  have hb := F.1.2.1
  intro s0 s1 s2 mc ms u H locs cells slots ls h hW hl hbc hbs
  unfold w_L_showsByPapers_18 at h
  refine rJast F hW h.1 h.2.1 dL_showsByPapers_18 (fun H locs hW => ?_)
  replace h := h.2.2
  obtain ⟨u9, eu⟩ : ∃ z, z = setJ u s2 (s1.toNatClampNeg) s0 := ⟨_, rfl⟩
  rw [← eu] at hW
  replace h := h u9 eu
  clear eu
  refine lv_goto (tgt := 26) hx hb dL_showsByPapers_19 (by decide) ?_
  refine lv_iconst (v := (0 : Int32)) hx hb dL_showsByPapers_26 (by decide) ?_
  refine W.widen (k := MC) (n := MS) (Nat.le.intro hbc) (Nat.le.intro hbs) ?_
  exact retI F hr hW h dL_showsByPapers_27
set_option maxHeartbeats 4000000 in
set_option maxRecDepth 100000 in
theorem c_L_showsByPapers {l : Launch} (hst : l.stackTraces = false) (G : Ctx) (v0 : Nat) (v1 : Int32) (v2 : Int32) (v3 : Int32) (v4 : Nat) (MC MS : Nat) (u : Mem) (K : Int32 → Mem → Prop) (h : w_L_showsByPapers G v0 v1 v2 v3 v4 MC MS u K) : CtI l yL_showsByPapers (.codeWith yL_showsByPapers cL_showsByPapers 6 (some .int) [(0, 19, 22, 13)]) 7 123 MC MS G [.ref v0, .int v1, .int v2, .int v3, .ref v4] u K := by
  refine entW (by first | decide | decide +kernel) hst (by first | decide | exact Nat.le_of_ble_eq_true rfl) (fun p e s m below meth c ls F hr hT hW hl => ?_)
  have F : Fx p l s m ([.ref v0, .int v1, .int v2, .int v3, .ref v4]).toArray meth c cL_showsByPapers 6 RL G := F
  have hl : lv_has ls 6 [(0, .ref v0), (1, .int v1), (2, .int v2), (3, .int v3), (4, .ref v4)] := hl
  have hx := F.1.1
  have hb := F.1.2.1
  have hbc : 0 + MC = MC := Nat.zero_add _
  have hbs : 0 + MS = MS := Nat.zero_add _
  unfold w_L_showsByPapers at h
  refine lv_aload hx hb dL_showsByPapers_0 (lv_at hl 4 rfl) ?_
  refine lv_iconst (v := (0 : Int32)) hx hb dL_showsByPapers_2 (by decide) ?_
  refine lv_aload_n hx hb dL_showsByPapers_3 rfl (lv_at hl 0 rfl) ?_
  refine lv_iload_n hx hb dL_showsByPapers_4 rfl (lv_at hl 1 rfl) ?_
  refine lv_iload_n hx hb dL_showsByPapers_5 rfl (lv_at hl 2 rfl) ?_
  refine lv_iload_n hx hb dL_showsByPapers_6 rfl (lv_at hl 3 rfl) ?_
  obtain ⟨c3, b4, h1, h2, h⟩ := h
  have hf1 := bdf hbc h1
  have hf2 := bdf hbs h2
  obtain ⟨hob, h⟩ := h
  refine cX (runX (n := 3) (As := [.int v1, .int v2, .int v3]) (rest := [.int (0 : Int32), .ref v4]) F hW (c_X5_showsByPapers F.2.2.2 G v0 v1 v2 v3 c3 b4 u _ _ h) hob (ci := 6) rfl q_569 q_570 q_571 q_2 q_572 rfl (by decide +kernel) ⟨Nat.le_of_ble_eq_true rfl, Nat.le_of_ble_eq_true rfl⟩ dL_showsByPapers_7 rfl hl.1 (Nat.le_of_ble_eq_true rfl) ⟨hf1, hf2⟩) hW (fun r2 u1 h9 H locs hW => ?_) (fun E u1 h9 H locs hW => ?_)
  · replace h := h9
    clear h9
    replace hbc := bdg hbc h1
    replace hbs := bdg hbs h2
    clear h1 h2 hf1 hf2
    refine lv_if_eq (tgt := 17) hx hb dL_showsByPapers_10 (by decide) (fun hc5 => ?_) (fun hc5 => ?_)
    · have h := h.1 hc5
      refine lv_lconst (v := (0 : Int64)) hx hb dL_showsByPapers_17 (by decide) ?_
      exact t_L_showsByPapers_18 v0 v1 v2 v3 v4 MC MS F hr hT K (0 : Int64) (0 : Int32) v4 (MC - c3) (MS - b4) u1 _ _ _ _ _ h hW (lv_sub hl [0, 1, 2, 3, 4] rfl) hbc hbs
    · have h := h.2 hc5
      refine lv_lconst (v := (1 : Int64)) hx hb dL_showsByPapers_13 (by decide) ?_
      refine lv_goto (tgt := 18) hx hb dL_showsByPapers_14 (by decide) ?_
      exact t_L_showsByPapers_18 v0 v1 v2 v3 v4 MC MS F hr hT K (1 : Int64) (0 : Int32) v4 (MC - c3) (MS - b4) u1 _ _ _ _ _ h hW (lv_sub hl [0, 1, 2, 3, 4] rfl) hbc hbs
  · replace h := h9
    clear h9
    replace hbc := bdg hbc h1
    replace hbs := bdg hbs h2
    clear h1 h2 hf1 hf2
    rcases h with ⟨rfl, h⟩
    · refine rCatch F hT [] (0, 19, 22, 13) [] rfl ?_ ⟨by decide, by decide⟩ (by decide) q_96 (List.mem_of_getElem? (i := 0) rfl) (fun q6 => ?_)
      · intro z hz
        cases hz
      · skip
        refine lv_astore (lv' := [(5, .ref q6), (0, .ref v0), (1, .int v1), (2, .int v2), (3, .int v3), (4, .ref v4)]) hx hb dL_showsByPapers_22 hl (by decide) rfl (fun ls hl9 => ?_)
        replace hl := hl9
        clear hl9
        refine lv_iconst (v := (1 : Int32)) hx hb dL_showsByPapers_24 (by decide) ?_
        refine W.widen (k := MC) (n := MS) (Nat.le.intro hbc) (Nat.le.intro hbs) ?_
        exact retI F hr hW h dL_showsByPapers_25
set_option maxHeartbeats 4000000 in
set_option maxRecDepth 100000 in
theorem c_L_state {l : Launch} (hst : l.stackTraces = false) (G : Ctx) (v0 : Nat) (v1 : Int32) (v2 : Nat) (MC MS : Nat) (u : Mem) (K : Int32 → Mem → Prop) (h : w_L_state G v0 v1 v2 MC MS u K) : CtI l yL_state (.codeWith yL_state cL_state 4 (some .int) [(0, 9, 12, 13)]) 7 122 MC MS G [.ref v0, .int v1, .ref v2] u K := by
  refine entW (by first | decide | decide +kernel) hst (by first | decide | exact Nat.le_of_ble_eq_true rfl) (fun p e s m below meth c ls F hr hT hW hl => ?_)
  have F : Fx p l s m ([.ref v0, .int v1, .ref v2]).toArray meth c cL_state 4 RL G := F
  have hl : lv_has ls 4 [(0, .ref v0), (1, .int v1), (2, .ref v2)] := hl
  have hx := F.1.1
  have hb := F.1.2.1
  have hbc : 0 + MC = MC := Nat.zero_add _
  have hbs : 0 + MS = MS := Nat.zero_add _
  unfold w_L_state at h
  refine lv_aload_n hx hb dL_state_0 rfl (lv_at hl 2 rfl) ?_
  refine lv_iconst (v := (0 : Int32)) hx hb dL_state_1 (by decide) ?_
  refine lv_aload_n hx hb dL_state_2 rfl (lv_at hl 0 rfl) ?_
  refine lv_iload_n hx hb dL_state_3 rfl (lv_at hl 1 rfl) ?_
  obtain ⟨c3, b4, h1, h2, h⟩ := h
  have hf1 := bdf hbc h1
  have hf2 := bdf hbs h2
  obtain ⟨hob, h⟩ := h
  refine cX (runX (n := 1) (As := [.int v1]) (rest := [.int (0 : Int32), .ref v2]) F hW (c_X5_state F.2.2.2 G v0 v1 c3 b4 u _ _ h) hob (ci := 6) rfl q_479 q_480 q_481 q_2 q_482 rfl (by decide +kernel) ⟨Nat.le_of_ble_eq_true rfl, Nat.le_of_ble_eq_true rfl⟩ dL_state_4 rfl hl.1 (Nat.le_of_ble_eq_true rfl) ⟨hf1, hf2⟩) hW (fun r2 u1 h9 H locs hW => ?_) (fun E u1 h9 H locs hW => ?_)
  · replace h := h9
    clear h9
    replace hbc := bdg hbc h1
    replace hbs := bdg hbs h2
    clear h1 h2 hf1 hf2
    refine lv_i2l hx hb dL_state_7 rfl ?_
    refine rJast F hW h.1 h.2.1 dL_state_8 (fun H locs hW => ?_)
    replace h := h.2.2
    obtain ⟨u5, eu⟩ : ∃ z, z = setJ u1 v2 ((0 : Int32).toNatClampNeg) ((r2).toInt64) := ⟨_, rfl⟩
    rw [← eu] at hW
    replace h := h u5 eu
    clear eu
    refine lv_goto (tgt := 15) hx hb dL_state_9 (by decide) ?_
    refine lv_iconst (v := (0 : Int32)) hx hb dL_state_15 (by decide) ?_
    refine W.widen (k := MC) (n := MS) (Nat.le.intro hbc) (Nat.le.intro hbs) ?_
    exact retI F hr hW h dL_state_16
  · replace h := h9
    clear h9
    replace hbc := bdg hbc h1
    replace hbs := bdg hbs h2
    clear h1 h2 hf1 hf2
    rcases h with ⟨rfl, h⟩
    · refine rCatch F hT [] (0, 9, 12, 13) [] rfl ?_ ⟨by decide, by decide⟩ (by decide) q_96 (List.mem_of_getElem? (i := 0) rfl) (fun q6 => ?_)
      · intro z hz
        cases hz
      · skip
        refine lv_astore_n (lv' := [(3, .ref q6), (0, .ref v0), (1, .int v1), (2, .ref v2)]) hx hb dL_state_12 rfl hl (by decide) rfl (fun ls hl9 => ?_)
        replace hl := hl9
        clear hl9
        refine lv_iconst (v := (1 : Int32)) hx hb dL_state_13 (by decide) ?_
        refine W.widen (k := MC) (n := MS) (Nat.le.intro hbc) (Nat.le.intro hbs) ?_
        exact retI F hr hW h dL_state_14
set_option maxHeartbeats 4000000 in
set_option maxRecDepth 100000 in
theorem c_L_streetOf {l : Launch} (hst : l.stackTraces = false) (G : Ctx) (v0 : Nat) (v1 : Int32) (v2 : Nat) (MC MS : Nat) (u : Mem) (K : Int32 → Mem → Prop) (h : w_L_streetOf G v0 v1 v2 MC MS u K) : CtI l yL_streetOf (.codeWith yL_streetOf cL_streetOf 4 (some .int) [(0, 9, 12, 13)]) 7 122 MC MS G [.ref v0, .int v1, .ref v2] u K := by
  refine entW (by first | decide | decide +kernel) hst (by first | decide | exact Nat.le_of_ble_eq_true rfl) (fun p e s m below meth c ls F hr hT hW hl => ?_)
  have F : Fx p l s m ([.ref v0, .int v1, .ref v2]).toArray meth c cL_streetOf 4 RL G := F
  have hl : lv_has ls 4 [(0, .ref v0), (1, .int v1), (2, .ref v2)] := hl
  have hx := F.1.1
  have hb := F.1.2.1
  have hbc : 0 + MC = MC := Nat.zero_add _
  have hbs : 0 + MS = MS := Nat.zero_add _
  unfold w_L_streetOf at h
  refine lv_aload_n hx hb dL_streetOf_0 rfl (lv_at hl 2 rfl) ?_
  refine lv_iconst (v := (0 : Int32)) hx hb dL_streetOf_1 (by decide) ?_
  refine lv_aload_n hx hb dL_streetOf_2 rfl (lv_at hl 0 rfl) ?_
  refine lv_iload_n hx hb dL_streetOf_3 rfl (lv_at hl 1 rfl) ?_
  obtain ⟨c3, b4, h1, h2, h⟩ := h
  have hf1 := bdf hbc h1
  have hf2 := bdf hbs h2
  obtain ⟨hob, h⟩ := h
  refine cX (runX (n := 1) (As := [.int v1]) (rest := [.int (0 : Int32), .ref v2]) F hW (c_X5_streetOf F.2.2.2 G v0 v1 c3 b4 u _ _ h) hob (ci := 6) rfl q_512 q_513 q_514 q_2 q_515 rfl (by decide +kernel) ⟨Nat.le_of_ble_eq_true rfl, Nat.le_of_ble_eq_true rfl⟩ dL_streetOf_4 rfl hl.1 (Nat.le_of_ble_eq_true rfl) ⟨hf1, hf2⟩) hW (fun r2 u1 h9 H locs hW => ?_) (fun E u1 h9 H locs hW => ?_)
  · replace h := h9
    clear h9
    replace hbc := bdg hbc h1
    replace hbs := bdg hbs h2
    clear h1 h2 hf1 hf2
    refine lv_i2l hx hb dL_streetOf_7 rfl ?_
    refine rJast F hW h.1 h.2.1 dL_streetOf_8 (fun H locs hW => ?_)
    replace h := h.2.2
    obtain ⟨u5, eu⟩ : ∃ z, z = setJ u1 v2 ((0 : Int32).toNatClampNeg) ((r2).toInt64) := ⟨_, rfl⟩
    rw [← eu] at hW
    replace h := h u5 eu
    clear eu
    refine lv_goto (tgt := 15) hx hb dL_streetOf_9 (by decide) ?_
    refine lv_iconst (v := (0 : Int32)) hx hb dL_streetOf_15 (by decide) ?_
    refine W.widen (k := MC) (n := MS) (Nat.le.intro hbc) (Nat.le.intro hbs) ?_
    exact retI F hr hW h dL_streetOf_16
  · replace h := h9
    clear h9
    replace hbc := bdg hbc h1
    replace hbs := bdg hbs h2
    clear h1 h2 hf1 hf2
    rcases h with ⟨rfl, h⟩
    · refine rCatch F hT [] (0, 9, 12, 13) [] rfl ?_ ⟨by decide, by decide⟩ (by decide) q_96 (List.mem_of_getElem? (i := 0) rfl) (fun q6 => ?_)
      · intro z hz
        cases hz
      · skip
        refine lv_astore_n (lv' := [(3, .ref q6), (0, .ref v0), (1, .int v1), (2, .ref v2)]) hx hb dL_streetOf_12 rfl hl (by decide) rfl (fun ls hl9 => ?_)
        replace hl := hl9
        clear hl9
        refine lv_iconst (v := (1 : Int32)) hx hb dL_streetOf_13 (by decide) ?_
        refine W.widen (k := MC) (n := MS) (Nat.le.intro hbc) (Nat.le.intro hbs) ?_
        exact retI F hr hW h dL_streetOf_14
set_option maxHeartbeats 4000000 in
set_option maxRecDepth 100000 in
theorem c_L_vote {l : Launch} (hst : l.stackTraces = false) (G : Ctx) (v0 : Nat) (v1 : Int32) (v2 : Int32) (v3 : Int32) (v4 : Nat) (MC MS : Nat) (u : Mem) (K : Int32 → Mem → Prop) (h : w_L_vote G v0 v1 v2 v3 v4 MC MS u K) : CtI l yL_vote (.codeWith yL_vote cL_vote 6 (some .int) [(0, 12, 15, 13), (0, 12, 19, 15)]) 7 124 MC MS G [.ref v0, .int v1, .int v2, .int v3, .ref v4] u K := by
  refine entW (by first | decide | decide +kernel) hst (by first | decide | exact Nat.le_of_ble_eq_true rfl) (fun p e s m below meth c ls F hr hT hW hl => ?_)
  have F : Fx p l s m ([.ref v0, .int v1, .int v2, .int v3, .ref v4]).toArray meth c cL_vote 6 RL G := F
  have hl : lv_has ls 6 [(0, .ref v0), (1, .int v1), (2, .int v2), (3, .int v3), (4, .ref v4)] := hl
  have hx := F.1.1
  have hb := F.1.2.1
  have hbc : 0 + MC = MC := Nat.zero_add _
  have hbs : 0 + MS = MS := Nat.zero_add _
  unfold w_L_vote at h
  refine lv_aload hx hb dL_vote_0 (lv_at hl 4 rfl) ?_
  refine lv_iconst (v := (0 : Int32)) hx hb dL_vote_2 (by decide) ?_
  refine lv_aload_n hx hb dL_vote_3 rfl (lv_at hl 0 rfl) ?_
  refine lv_iload_n hx hb dL_vote_4 rfl (lv_at hl 1 rfl) ?_
  refine lv_iload_n hx hb dL_vote_5 rfl (lv_at hl 2 rfl) ?_
  refine lv_iload_n hx hb dL_vote_6 rfl (lv_at hl 3 rfl) ?_
  obtain ⟨c3, b4, h1, h2, h⟩ := h
  have hf1 := bdf hbc h1
  have hf2 := bdf hbs h2
  obtain ⟨hob, h⟩ := h
  refine cX (runX (n := 3) (As := [.int v1, .int v2, .int v3]) (rest := [.int (0 : Int32), .ref v4]) F hW (c_X5_vote F.2.2.2 G v0 v1 v2 v3 c3 b4 u _ _ h) hob (ci := 6) rfl q_148 q_149 q_150 q_2 q_151 rfl (by decide +kernel) ⟨Nat.le_of_ble_eq_true rfl, Nat.le_of_ble_eq_true rfl⟩ dL_vote_7 rfl hl.1 (Nat.le_of_ble_eq_true rfl) ⟨hf1, hf2⟩) hW (fun r2 u1 h9 H locs hW => ?_) (fun E u1 h9 H locs hW => ?_)
  · replace h := h9
    clear h9
    replace hbc := bdg hbc h1
    replace hbs := bdg hbs h2
    clear h1 h2 hf1 hf2
    refine lv_i2l hx hb dL_vote_10 rfl ?_
    refine rJast F hW h.1 h.2.1 dL_vote_11 (fun H locs hW => ?_)
    replace h := h.2.2
    obtain ⟨u5, eu⟩ : ∃ z, z = setJ u1 v4 ((0 : Int32).toNatClampNeg) ((r2).toInt64) := ⟨_, rfl⟩
    rw [← eu] at hW
    replace h := h u5 eu
    clear eu
    refine lv_goto (tgt := 23) hx hb dL_vote_12 (by decide) ?_
    refine lv_iconst (v := (0 : Int32)) hx hb dL_vote_23 (by decide) ?_
    refine W.widen (k := MC) (n := MS) (Nat.le.intro hbc) (Nat.le.intro hbs) ?_
    exact retI F hr hW h dL_vote_24
  · replace h := h9
    clear h9
    replace hbc := bdg hbc h1
    replace hbs := bdg hbs h2
    clear h1 h2 hf1 hf2
    rcases h with ⟨rfl, h⟩ | ⟨rfl, h⟩
    · refine rCatch F hT [] (0, 12, 15, 13) [(0, 12, 19, 15)] rfl ?_ ⟨by decide, by decide⟩ (by decide) q_96 (List.mem_of_getElem? (i := 0) rfl) (fun q6 => ?_)
      · intro z hz
        cases hz
      · skip
        refine lv_astore (lv' := [(5, .ref q6), (0, .ref v0), (1, .int v1), (2, .int v2), (3, .int v3), (4, .ref v4)]) hx hb dL_vote_15 hl (by decide) rfl (fun ls hl9 => ?_)
        replace hl := hl9
        clear hl9
        refine lv_iconst (v := (1 : Int32)) hx hb dL_vote_17 (by decide) ?_
        refine W.widen (k := MC) (n := MS) (Nat.le.intro hbc) (Nat.le.intro hbs) ?_
        exact retI F hr hW h dL_vote_18
    · refine rCatch F hT [(0, 12, 15, 13)] (0, 12, 19, 15) [] rfl ?_ ⟨by decide, by decide⟩ (by decide) q_97 (List.mem_of_getElem? (i := 1) rfl) (fun q7 => ?_)
      · intro z hz
        simp only [List.mem_cons, List.not_mem_nil, or_false] at hz
        rcases hz with rfl
        · exact ⟨by decide, "java/lang/IndexOutOfBoundsException", q_96, List.mem_of_getElem? (i := 2) rfl⟩
      · skip
        refine lv_astore (lv' := [(5, .ref q7), (0, .ref v0), (1, .int v1), (2, .int v2), (3, .int v3), (4, .ref v4)]) hx hb dL_vote_19 hl (by decide) rfl (fun ls hl9 => ?_)
        replace hl := hl9
        clear hl9
        refine lv_iconst (v := (2 : Int32)) hx hb dL_vote_21 (by decide) ?_
        refine W.widen (k := MC) (n := MS) (Nat.le.intro hbc) (Nat.le.intro hbs) ?_
        exact retI F hr hW h dL_vote_22
set_option maxHeartbeats 4000000 in
set_option maxRecDepth 100000 in
theorem c_L_way {l : Launch} (hst : l.stackTraces = false) (G : Ctx) (v0 : Nat) (v1 : Int32) (v2 : Int32) (v3 : Nat) (MC MS : Nat) (u : Mem) (K : Int32 → Mem → Prop) (h : w_L_way G v0 v1 v2 v3 MC MS u K) : CtI l yL_way (.codeWith yL_way cL_way 5 (some .int) [(0, 10, 13, 13)]) 7 122 MC MS G [.ref v0, .int v1, .int v2, .ref v3] u K := by
  refine entW (by first | decide | decide +kernel) hst (by first | decide | exact Nat.le_of_ble_eq_true rfl) (fun p e s m below meth c ls F hr hT hW hl => ?_)
  have F : Fx p l s m ([.ref v0, .int v1, .int v2, .ref v3]).toArray meth c cL_way 5 RL G := F
  have hl : lv_has ls 5 [(0, .ref v0), (1, .int v1), (2, .int v2), (3, .ref v3)] := hl
  have hx := F.1.1
  have hb := F.1.2.1
  have hbc : 0 + MC = MC := Nat.zero_add _
  have hbs : 0 + MS = MS := Nat.zero_add _
  unfold w_L_way at h
  refine lv_aload_n hx hb dL_way_0 rfl (lv_at hl 3 rfl) ?_
  refine lv_iconst (v := (0 : Int32)) hx hb dL_way_1 (by decide) ?_
  refine lv_aload_n hx hb dL_way_2 rfl (lv_at hl 0 rfl) ?_
  refine lv_iload_n hx hb dL_way_3 rfl (lv_at hl 1 rfl) ?_
  refine lv_iload_n hx hb dL_way_4 rfl (lv_at hl 2 rfl) ?_
  obtain ⟨c3, b4, h1, h2, h⟩ := h
  have hf1 := bdf hbc h1
  have hf2 := bdf hbs h2
  obtain ⟨hob, h⟩ := h
  refine cX (runX (n := 2) (As := [.int v1, .int v2]) (rest := [.int (0 : Int32), .ref v3]) F hW (c_X5_way F.2.2.2 G v0 v1 v2 c3 b4 u _ _ h) hob (ci := 6) rfl q_534 q_535 q_536 q_2 q_537 rfl (by decide +kernel) ⟨Nat.le_of_ble_eq_true rfl, Nat.le_of_ble_eq_true rfl⟩ dL_way_5 rfl hl.1 (Nat.le_of_ble_eq_true rfl) ⟨hf1, hf2⟩) hW (fun r2 u1 h9 H locs hW => ?_) (fun E u1 h9 H locs hW => ?_)
  · replace h := h9
    clear h9
    replace hbc := bdg hbc h1
    replace hbs := bdg hbs h2
    clear h1 h2 hf1 hf2
    refine lv_i2l hx hb dL_way_8 rfl ?_
    refine rJast F hW h.1 h.2.1 dL_way_9 (fun H locs hW => ?_)
    replace h := h.2.2
    obtain ⟨u5, eu⟩ : ∃ z, z = setJ u1 v3 ((0 : Int32).toNatClampNeg) ((r2).toInt64) := ⟨_, rfl⟩
    rw [← eu] at hW
    replace h := h u5 eu
    clear eu
    refine lv_goto (tgt := 17) hx hb dL_way_10 (by decide) ?_
    refine lv_iconst (v := (0 : Int32)) hx hb dL_way_17 (by decide) ?_
    refine W.widen (k := MC) (n := MS) (Nat.le.intro hbc) (Nat.le.intro hbs) ?_
    exact retI F hr hW h dL_way_18
  · replace h := h9
    clear h9
    replace hbc := bdg hbc h1
    replace hbs := bdg hbs h2
    clear h1 h2 hf1 hf2
    rcases h with ⟨rfl, h⟩
    · refine rCatch F hT [] (0, 10, 13, 13) [] rfl ?_ ⟨by decide, by decide⟩ (by decide) q_96 (List.mem_of_getElem? (i := 0) rfl) (fun q6 => ?_)
      · intro z hz
        cases hz
      · skip
        refine lv_astore (lv' := [(4, .ref q6), (0, .ref v0), (1, .int v1), (2, .int v2), (3, .ref v3)]) hx hb dL_way_13 hl (by decide) rfl (fun ls hl9 => ?_)
        replace hl := hl9
        clear hl9
        refine lv_iconst (v := (1 : Int32)) hx hb dL_way_15 (by decide) ?_
        refine W.widen (k := MC) (n := MS) (Nat.le.intro hbc) (Nat.le.intro hbs) ?_
        exact retI F hr hW h dL_way_16
end WK4
