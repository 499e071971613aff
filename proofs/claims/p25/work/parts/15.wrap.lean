section WK4
set_option maxHeartbeats 4000000 in
set_option maxRecDepth 100000 in
theorem t_L_calls_37 {p : Program} {l : Launch} {e : Env} {s : State} {m : MethodId} {below : List Frame} {meth : Method} {c : Code} {G : Ctx} (v0 : Nat) (v1 : Int32) (v2 : Int32) (v3 : Int32) (MC MS : Nat) (F : Fx p l s m ([.ref v0, .int v1, .int v2, .int v3]).toArray meth c cL_calls 5 RL G) (hr : meth.sig.returnType = (some .int)) (hT : c.exceptionTable.toList = Jvm.tableOf [(0, 40, 41, 24)]) (K : Int32 → Mem → Prop) : ∀ (s0 : Int32) (s1 : Int32) (s2 : Nat) (mc ms : Nat) (u : Mem) (H : Heap) (locs : List Loc) (cells slots : Nat) (ls : Array Slot), w_L_calls_37 G v0 v1 v2 v3 K s0 s1 s2 mc ms u → Wd G u s H locs → lv_has ls 5 [(0, .ref v0), (1, .int v1), (2, .int v2), (3, .int v3)] → cells + mc = MC → slots + ms = MS → W p l e { frames := 7, cells := MC, slots := MS, locals := 149 } s m ([.ref v0, .int v1, .int v2, .int v3]).toArray below meth c H locs cells slots (MQ below (va_Qi K (fun u' t => Wp G u' t.heap) (Ab G)) ([.ref v0, .int v1, .int v2, .int v3]).toArray s MC MS (Ab G)) (F0 m 37 ls [.int s0, .int s1, .ref s2]) := by
  have hx := F.1.1
  have hb := F.1.2.1
  intro s0 s1 s2 mc ms u H locs cells slots ls h hW hl hbc hbs
  unfold w_L_calls_37 at h
  obtain ⟨c26, b27, h1, h2, h⟩ := h
  have hf1 := bdf hbc h1
  have hf2 := bdf hbs h2
  obtain ⟨hob, h⟩ := h
  refine cX (runX (n := 2) (As := [.int s1, .int s0]) (rest := []) F hW (c_X5_complain F.2.2.2 G s2 s1 s0 c26 b27 u _ _ h) hob (ci := 6) rfl q_247 q_248 q_249 q_2 q_250 rfl (by decide +kernel) ⟨Nat.le_of_ble_eq_true rfl, Nat.le_of_ble_eq_true rfl⟩ dL_calls_37 rfl hl.1 (Nat.le_of_ble_eq_true rfl) ⟨hf1, hf2⟩) hW (fun r25 u24 h9 H locs hW => ?_) (fun E u24 h9 H locs hW => ?_)
  · replace h := h9
    clear h9
    replace hbc := bdg hbc h1
    replace hbs := bdg hbs h2
    clear h1 h2 hf1 hf2
    refine W.widen (k := MC) (n := MS) (Nat.le.intro hbc) (Nat.le.intro hbs) ?_
    exact retI F hr hW h dL_calls_40
  · replace h := h9
    clear h9
    replace hbc := bdg hbc h1
    replace hbs := bdg hbs h2
    clear h1 h2 hf1 hf2
    rcases h with ⟨rfl, h⟩
    · refine rCatch F hT [] (0, 40, 41, 24) [] rfl ?_ ⟨by decide, by decide⟩ (by decide) q_197 (List.mem_of_getElem? (i := 2) rfl) (fun q28 => ?_)
      · intro z hz
        cases hz
      · skip
        refine lv_astore (lv' := [(4, .ref q28), (0, .ref v0), (1, .int v1), (2, .int v2), (3, .int v3)]) hx hb dL_calls_41 hl (by decide) rfl (fun ls hl9 => ?_)
        replace hl := hl9
        clear hl9
        refine lv_bipush (v := (-3 : Int32)) hx hb dL_calls_43 (by decide) ?_
        refine W.widen (k := MC) (n := MS) (Nat.le.intro hbc) (Nat.le.intro hbs) ?_
        exact retI F hr hW h dL_calls_45
set_option maxHeartbeats 4000000 in
set_option maxRecDepth 100000 in
theorem c_L_calls {l : Launch} (hst : l.stackTraces = false) (G : Ctx) (v0 : Nat) (v1 : Int32) (v2 : Int32) (v3 : Int32) (MC MS : Nat) (u : Mem) (K : Int32 → Mem → Prop) (h : w_L_calls G v0 v1 v2 v3 MC MS u K) : CtI l yL_calls (.codeWith yL_calls cL_calls 5 (some .int) [(0, 40, 41, 24)]) 7 149 MC MS G [.ref v0, .int v1, .int v2, .int v3] u K := by
  refine entW (by first | decide | decide +kernel) hst (by first | decide | exact Nat.le_of_ble_eq_true rfl) (fun p e s m below meth c ls F hr hT hW hl => ?_)
  have F : Fx p l s m ([.ref v0, .int v1, .int v2, .int v3]).toArray meth c cL_calls 5 RL G := F
  have hl : lv_has ls 5 [(0, .ref v0), (1, .int v1), (2, .int v2), (3, .int v3)] := hl
  have hx := F.1.1
  have hb := F.1.2.1
  have hbc : 0 + MC = MC := Nat.zero_add _
  have hbs : 0 + MS = MS := Nat.zero_add _
  unfold w_L_calls at h
  refine lv_iload_n hx hb dL_calls_0 rfl (lv_at hl 1 rfl) ?_
  refine lv_if_ne (tgt := 13) hx hb dL_calls_1 (by decide) (fun hc1 => ?_) (fun hc1 => ?_)
  · have h := h.2 hc1
    refine lv_iload_n hx hb dL_calls_13 rfl (lv_at hl 1 rfl) ?_
    refine lv_iconst (v := (1 : Int32)) hx hb dL_calls_14 (by decide) ?_
    refine lv_icmp_ne (tgt := 25) hx hb dL_calls_15 (by decide) (fun hc2 => ?_) (fun hc2 => ?_)
    · have h := h.2 hc2
      refine lv_aload_n hx hb dL_calls_25 rfl (lv_at hl 0 rfl) ?_
      refine lv_iload_n hx hb dL_calls_26 rfl (lv_at hl 2 rfl) ?_
      refine lv_iload_n hx hb dL_calls_27 rfl (lv_at hl 3 rfl) ?_
      refine lv_iconst (v := (1 : Int32)) hx hb dL_calls_28 (by decide) ?_
      refine lv_icmp_ne (tgt := 36) hx hb dL_calls_29 (by decide) (fun hc3 => ?_) (fun hc3 => ?_)
      · have h := h.2 hc3
        refine lv_iconst (v := (0 : Int32)) hx hb dL_calls_36 (by decide) ?_
        exact t_L_calls_37 v0 v1 v2 v3 MC MS F hr hT K (0 : Int32) v2 v0 MC MS u _ _ _ _ _ h hW (lv_sub hl [0, 1, 2, 3] rfl) hbc hbs
      · have h := h.1 hc3
        refine lv_iconst (v := (1 : Int32)) hx hb dL_calls_32 (by decide) ?_
        refine lv_goto (tgt := 37) hx hb dL_calls_33 (by decide) ?_
        exact t_L_calls_37 v0 v1 v2 v3 MC MS F hr hT K (1 : Int32) v2 v0 MC MS u _ _ _ _ _ h hW (lv_sub hl [0, 1, 2, 3] rfl) hbc hbs
    · have h := h.1 hc2
      refine lv_aload_n hx hb dL_calls_18 rfl (lv_at hl 0 rfl) ?_
      obtain ⟨c6, b7, h1, h2, h⟩ := h
      have hf1 := bdf hbc h1
      have hf2 := bdf hbs h2
      obtain ⟨hob, h⟩ := h
      refine cX (runX (n := 0) (As := []) (rest := []) F hW (c_X5_night F.2.2.2 G v0 c6 b7 u _ _ h) hob (ci := 6) rfl q_206 q_207 q_208 q_2 q_209 rfl (by decide +kernel) ⟨Nat.le_of_ble_eq_true rfl, Nat.le_of_ble_eq_true rfl⟩ dL_calls_19 rfl hl.1 (Nat.le_of_ble_eq_true rfl) ⟨hf1, hf2⟩) hW (fun r5 u4 h9 H locs hW => ?_) (fun E u4 h9 H locs hW => ?_)
      · replace h := h9
        clear h9
        replace hbc := bdg hbc h1
        replace hbs := bdg hbs h2
        clear h1 h2 hf1 hf2
        refine lv_goto (tgt := 40) hx hb dL_calls_22 (by decide) ?_
        refine W.widen (k := MC) (n := MS) (Nat.le.intro hbc) (Nat.le.intro hbs) ?_
        exact retI F hr hW h dL_calls_40
      · replace h := h9
        clear h9
        replace hbc := bdg hbc h1
        replace hbs := bdg hbs h2
        clear h1 h2 hf1 hf2
        rcases h with ⟨rfl, h⟩
        · refine rCatch F hT [] (0, 40, 41, 24) [] rfl ?_ ⟨by decide, by decide⟩ (by decide) q_197 (List.mem_of_getElem? (i := 2) rfl) (fun q8 => ?_)
          · intro z hz
            cases hz
          · skip
            refine lv_astore (lv' := [(4, .ref q8), (0, .ref v0), (1, .int v1), (2, .int v2), (3, .int v3)]) hx hb dL_calls_41 hl (by decide) rfl (fun ls hl9 => ?_)
            replace hl := hl9
            clear hl9
            refine lv_bipush (v := (-3 : Int32)) hx hb dL_calls_43 (by decide) ?_
            refine W.widen (k := MC) (n := MS) (Nat.le.intro hbc) (Nat.le.intro hbs) ?_
            exact retI F hr hW h dL_calls_45
  · have h := h.1 hc1
    refine lv_aload_n hx hb dL_calls_4 rfl (lv_at hl 0 rfl) ?_
    refine lv_iload_n hx hb dL_calls_5 rfl (lv_at hl 2 rfl) ?_
    refine lv_iload_n hx hb dL_calls_6 rfl (lv_at hl 3 rfl) ?_
    obtain ⟨c11, b12, h1, h2, h⟩ := h
    have hf1 := bdf hbc h1
    have hf2 := bdf hbs h2
    obtain ⟨hob, h⟩ := h
    refine cX (runX (n := 2) (As := [.int v2, .int v3]) (rest := []) F hW (c_X5_place F.2.2.2 G v0 v2 v3 c11 b12 u _ _ h) hob (ci := 6) rfl q_198 q_199 q_200 q_2 q_201 rfl (by decide +kernel) ⟨Nat.le_of_ble_eq_true rfl, Nat.le_of_ble_eq_true rfl⟩ dL_calls_7 rfl hl.1 (Nat.le_of_ble_eq_true rfl) ⟨hf1, hf2⟩) hW (fun r10 u9 h9 H locs hW => ?_) (fun E u9 h9 H locs hW => ?_)
    · replace h := h9
      clear h9
      replace hbc := bdg hbc h1
      replace hbs := bdg hbs h2
      clear h1 h2 hf1 hf2
      refine lv_goto (tgt := 40) hx hb dL_calls_10 (by decide) ?_
      refine W.widen (k := MC) (n := MS) (Nat.le.intro hbc) (Nat.le.intro hbs) ?_
      exact retI F hr hW h dL_calls_40
    · replace h := h9
      clear h9
      replace hbc := bdg hbc h1
      replace hbs := bdg hbs h2
      clear h1 h2 hf1 hf2
      rcases h with ⟨rfl, h⟩
      · refine rCatch F hT [] (0, 40, 41, 24) [] rfl ?_ ⟨by decide, by decide⟩ (by decide) q_197 (List.mem_of_getElem? (i := 2) rfl) (fun q13 => ?_)
        · intro z hz
          cases hz
        · skip
          refine lv_astore (lv' := [(4, .ref q13), (0, .ref v0), (1, .int v1), (2, .int v2), (3, .int v3)]) hx hb dL_calls_41 hl (by decide) rfl (fun ls hl9 => ?_)
          replace hl := hl9
          clear hl9
          refine lv_bipush (v := (-3 : Int32)) hx hb dL_calls_43 (by decide) ?_
          refine W.widen (k := MC) (n := MS) (Nat.le.intro hbc) (Nat.le.intro hbs) ?_
          exact retI F hr hW h dL_calls_45
set_option maxHeartbeats 4000000 in
set_option maxRecDepth 100000 in
theorem c_L_cell {l : Launch} (hst : l.stackTraces = false) (G : Ctx) (v0 : Nat) (v1 : Int32) (u : Mem) (K : Int32 → Mem → Prop) (h : w_L_cell G v0 v1 u K) : CtI l yL_cell (.code yL_cell cL_cell 2 (some .int)) 0 0 0 0 G [.ref v0, .int v1] u K := by
  refine entM (by first | decide | decide +kernel) hst (by first | decide | exact Nat.le_of_ble_eq_true rfl) (fun p e s m below meth c ls F hr hnm hW hl => ?_)
  have F : Fx p l s m ([.ref v0, .int v1]).toArray meth c cL_cell 2 RL G := F
  have hnm : meth.name = "cell" := hnm
  have hl : lv_has ls 2 [(0, .ref v0), (1, .int v1)] := hl
  have hx := F.1.1
  have hb := F.1.2.1
  unfold w_L_cell at h
  refine lv_iload_n hx hb dL_cell_0 rfl (lv_at hl 1 rfl) ?_
  refine lv_aload_n hx hb dL_cell_1 rfl (lv_at hl 0 rfl) ?_
  refine rSlen F hW h.1 dL_cell_2 ?_
  replace h := h.2
  refine lv_icmp_ge (tgt := 12) hx hb dL_cell_3 (by decide) (fun hc1 => ?_) (fun hc1 => ?_)
  · have h := h.1 hc1
    refine lv_ldc hx hb F.1.2.2.2.1 (F.1.2.2.2.2 _ q_70) dL_cell_12 ?_
    refine lv_iload_n hx hb dL_cell_14 rfl (lv_at hl 1 rfl) ?_
    refine lv_bipush (v := (39 : Int32)) hx hb dL_cell_15 (by decide) ?_
    refine lv_iadd hx hb dL_cell_17 ?_
    refine lv_imul hx hb dL_cell_18 ?_
    refine lv_ldc hx hb F.1.2.2.2.1 (F.1.2.2.2.2 _ q_71) dL_cell_19 ?_
    refine lv_iadd hx hb dL_cell_21 ?_
    exact retI F hr hW h dL_cell_22
  · have h := h.2 hc1
    refine lv_aload_n hx hb dL_cell_6 rfl (lv_at hl 0 rfl) ?_
    refine lv_iload_n hx hb dL_cell_7 rfl (lv_at hl 1 rfl) ?_
    refine rSld F hW h.1 h.2.1 dL_cell_8 ?_
    replace h := h.2.2
    refine lv_goto (tgt := 22) hx hb dL_cell_9 (by decide) ?_
    exact retI F hr hW h dL_cell_22
set_option maxHeartbeats 4000000 in
set_option maxRecDepth 100000 in
theorem t_L_days_61 {p : Program} {l : Launch} {e : Env} {s : State} {m : MethodId} {below : List Frame} {meth : Method} {c : Code} {G : Ctx} (v0 : Int32) (v1 : Nat) (F : Fx p l s m ([.int v0, .ref v1]).toArray meth c cL_days 7 RL G) (hr : meth.sig.returnType = (some .int)) (K : Int32 → Mem → Prop) (J11 : Int32 → Int32 → Int32 → Int32 → Mem → Prop) (hJ11 : ∀ (v2 : Int32) (v3 : Int32) (v4 : Int32) (v5 : Int32) (u : Mem) (H : Heap) (locs : List Loc) (ls : Array Slot), J11 v2 v3 v4 v5 u → Wd G u s H locs → lv_has ls 7 [(0, .int v0), (1, .ref v1), (2, .int v2), (3, .int v3), (4, .int v4), (5, .int v5)] → W p l e { frames := 0, cells := 0, slots := 0, locals := 0 } s m ([.int v0, .ref v1]).toArray below meth c H locs 0 0 (MQ below (va_Qi K (fun u' t => Wp G u' t.heap) (Ab G)) ([.int v0, .ref v1]).toArray s 0 0 (Ab G)) (F0 m 11 ls [])) : ∀ (v2 : Int32) (v3 : Int32) (v5 : Int32) (s0 : Int32) (u : Mem) (H : Heap) (locs : List Loc) (ls : Array Slot), w_L_days_61 G v0 v1 K J11 v2 v3 v5 s0 u → Wd G u s H locs → lv_has ls 7 [(0, .int v0), (1, .ref v1), (2, .int v2), (3, .int v3), (5, .int v5)] → W p l e { frames := 0, cells := 0, slots := 0, locals := 0 } s m ([.int v0, .ref v1]).toArray below meth c H locs 0 0 (MQ below (va_Qi K (fun u' t => Wp G u' t.heap) (Ab G)) ([.int v0, .ref v1]).toArray s 0 0 (Ab G)) (F0 m 61 ls [.int s0]) := by
  have hx := F.1.1
  have hb := F.1.2.1
  intro v2 v3 v5 s0 u H locs ls h hW hl
  unfold w_L_days_61 at h
  refine lv_istore (lv' := [(4, .int s0), (0, .int v0), (1, .ref v1), (2, .int v2), (3, .int v3), (5, .int v5)]) hx hb dL_days_61 hl (by decide) rfl (fun ls hl9 => ?_)
  replace hl := hl9
  clear hl9
  refine lv_iinc (v := (v5 + 1)) (lv' := [(5, .int (v5 + 1)), (4, .int s0), (0, .int v0), (1, .ref v1), (2, .int v2), (3, .int v3)]) hx hb dL_days_63 hl (k := 5) rfl rfl (by decide) rfl (fun ls hl9 => ?_)
  replace hl := hl9
  clear hl9
  refine lv_goto (tgt := 11) hx hb dL_days_66 (by decide) ?_
  exact hJ11 v2 v3 s0 (v5 + 1) u _ _ _ h hW (lv_sub hl [2, 3, 4, 5, 1, 0] rfl)
set_option maxHeartbeats 4000000 in
set_option maxRecDepth 100000 in
theorem t_L_days_46 {p : Program} {l : Launch} {e : Env} {s : State} {m : MethodId} {below : List Frame} {meth : Method} {c : Code} {G : Ctx} (v0 : Int32) (v1 : Nat) (F : Fx p l s m ([.int v0, .ref v1]).toArray meth c cL_days 7 RL G) (hr : meth.sig.returnType = (some .int)) (K : Int32 → Mem → Prop) (J11 : Int32 → Int32 → Int32 → Int32 → Mem → Prop) (hJ11 : ∀ (v2 : Int32) (v3 : Int32) (v4 : Int32) (v5 : Int32) (u : Mem) (H : Heap) (locs : List Loc) (ls : Array Slot), J11 v2 v3 v4 v5 u → Wd G u s H locs → lv_has ls 7 [(0, .int v0), (1, .ref v1), (2, .int v2), (3, .int v3), (4, .int v4), (5, .int v5)] → W p l e { frames := 0, cells := 0, slots := 0, locals := 0 } s m ([.int v0, .ref v1]).toArray below meth c H locs 0 0 (MQ below (va_Qi K (fun u' t => Wp G u' t.heap) (Ab G)) ([.int v0, .ref v1]).toArray s 0 0 (Ab G)) (F0 m 11 ls [])) : ∀ (v2 : Int32) (v4 : Int32) (v5 : Int32) (v6 : Int32) (s0 : Int32) (u : Mem) (H : Heap) (locs : List Loc) (ls : Array Slot), w_L_days_46 G v0 v1 K J11 v2 v4 v5 v6 s0 u → Wd G u s H locs → lv_has ls 7 [(0, .int v0), (1, .ref v1), (2, .int v2), (4, .int v4), (5, .int v5), (6, .int v6)] → W p l e { frames := 0, cells := 0, slots := 0, locals := 0 } s m ([.int v0, .ref v1]).toArray below meth c H locs 0 0 (MQ below (va_Qi K (fun u' t => Wp G u' t.heap) (Ab G)) ([.int v0, .ref v1]).toArray s 0 0 (Ab G)) (F0 m 46 ls [.int s0]) := by
  have hx := F.1.1
  have hb := F.1.2.1
  intro v2 v4 v5 v6 s0 u H locs ls h hW hl
  unfold w_L_days_46 at h
  refine lv_istore_n (lv' := [(3, .int s0), (0, .int v0), (1, .ref v1), (2, .int v2), (4, .int v4), (5, .int v5), (6, .int v6)]) hx hb dL_days_46 rfl hl (by decide) rfl (fun ls hl9 => ?_)
  replace hl := hl9
  clear hl9
  refine lv_iload hx hb dL_days_47 (lv_at hl 6 rfl) ?_
  refine lv_iload hx hb dL_days_49 (lv_at hl 4 rfl) ?_
  refine lv_icmp_le (tgt := 59) hx hb dL_days_51 (by decide) (fun hc7 => ?_) (fun hc7 => ?_)
  · have h := h.1 hc7
    refine lv_iload hx hb dL_days_59 (lv_at hl 4 rfl) ?_
    exact t_L_days_61 v0 v1 F hr K J11 hJ11 v2 s0 v5 v4 u _ _ _ h hW (lv_sub hl [1, 2, 3, 0, 5] rfl)
  · have h := h.2 hc7
    refine lv_iload hx hb dL_days_54 (lv_at hl 6 rfl) ?_
    refine lv_goto (tgt := 61) hx hb dL_days_56 (by decide) ?_
    exact t_L_days_61 v0 v1 F hr K J11 hJ11 v2 s0 v5 v6 u _ _ _ h hW (lv_sub hl [1, 2, 3, 0, 5] rfl)
set_option maxHeartbeats 4000000 in
set_option maxRecDepth 100000 in
theorem t_L_days_11 {p : Program} {l : Launch} {e : Env} {s : State} {m : MethodId} {below : List Frame} {meth : Method} {c : Code} {G : Ctx} (v0 : Int32) (v1 : Nat) (F : Fx p l s m ([.int v0, .ref v1]).toArray meth c cL_days 7 RL G) (hr : meth.sig.returnType = (some .int)) (K : Int32 → Mem → Prop) : ∀ (n : Nat), ∀ (v2 : Int32) (v3 : Int32) (v4 : Int32) (v5 : Int32) (u : Mem) (H : Heap) (locs : List Loc) (ls : Array Slot), w_L_days_11 G v0 v1 K n v2 v3 v4 v5 u → Wd G u s H locs → lv_has ls 7 [(0, .int v0), (1, .ref v1), (2, .int v2), (3, .int v3), (4, .int v4), (5, .int v5)] → W p l e { frames := 0, cells := 0, slots := 0, locals := 0 } s m ([.int v0, .ref v1]).toArray below meth c H locs 0 0 (MQ below (va_Qi K (fun u' t => Wp G u' t.heap) (Ab G)) ([.int v0, .ref v1]).toArray s 0 0 (Ab G)) (F0 m 11 ls []) := by
  have hx := F.1.1
  have hb := F.1.2.1
  intro n
  induction n with
  | zero =>
    intro v2 v3 v4 v5 u H locs ls h hW hl
    exact h.elim
  | succ n hJ11 =>
    intro v2 v3 v4 v5 u H locs ls h hW hl
    have h : b_L_days_11 G v0 v1 K (w_L_days_11 G v0 v1 K n) v2 v3 v4 v5 u := h
    revert h
    generalize w_L_days_11 G v0 v1 K n = J11 at hJ11 ⊢
    intro h
    unfold b_L_days_11 at h
    refine lv_iload hx hb dL_days_11 (lv_at hl 5 rfl) ?_
    refine lv_bipush (v := (6 : Int32)) hx hb dL_days_13 (by decide) ?_
    refine lv_icmp_ge (tgt := 69) hx hb dL_days_15 (by decide) (fun hc8 => ?_) (fun hc8 => ?_)
    · have h := h.1 hc8
      refine lv_iload_n hx hb dL_days_69 rfl (lv_at hl 2 rfl) ?_
      refine lv_iload_n hx hb dL_days_70 rfl (lv_at hl 3 rfl) ?_
      refine lv_isub hx hb dL_days_71 ?_
      refine lv_iload hx hb dL_days_72 (lv_at hl 4 rfl) ?_
      refine lv_isub hx hb dL_days_74 ?_
      exact retI F hr hW h dL_days_75
    · have h := h.2 hc8
      refine lv_aload_n hx hb dL_days_18 rfl (lv_at hl 1 rfl) ?_
      refine lv_bipush (v := (6 : Int32)) hx hb dL_days_19 (by decide) ?_
      refine lv_iload_n hx hb dL_days_21 rfl (lv_at hl 0 rfl) ?_
      refine lv_imul hx hb dL_days_22 ?_
      refine lv_iload hx hb dL_days_23 (lv_at hl 5 rfl) ?_
      refine lv_iadd hx hb dL_days_25 ?_
      refine rIald F hW h.1 h.2.1 dL_days_26 ?_
      replace h := h.2.2
      refine lv_istore (lv' := [(6, .int (mA u v1 (((6 : Int32) * v0) + v5).toNatClampNeg)), (0, .int v0), (1, .ref v1), (2, .int v2), (3, .int v3), (4, .int v4), (5, .int v5)]) hx hb dL_days_27 hl (by decide) rfl (fun ls hl9 => ?_)
      replace hl := hl9
      clear hl9
      refine lv_iload_n hx hb dL_days_29 rfl (lv_at hl 3 rfl) ?_
      refine lv_iload hx hb dL_days_30 (lv_at hl 0 rfl) ?_
      refine lv_iadd hx hb dL_days_32 ?_
      refine lv_istore_n (lv' := [(2, .int (v2 + (mA u v1 (((6 : Int32) * v0) + v5).toNatClampNeg))), (6, .int (mA u v1 (((6 : Int32) * v0) + v5).toNatClampNeg)), (0, .int v0), (1, .ref v1), (3, .int v3), (4, .int v4), (5, .int v5)]) hx hb dL_days_33 rfl hl (by decide) rfl (fun ls hl9 => ?_)
      replace hl := hl9
      clear hl9
      refine lv_iload hx hb dL_days_34 (lv_at hl 1 rfl) ?_
      refine lv_iload_n hx hb dL_days_36 rfl (lv_at hl 4 rfl) ?_
      refine lv_icmp_ge (tgt := 45) hx hb dL_days_37 (by decide) (fun hc9 => ?_) (fun hc9 => ?_)
      · have h := h.1 hc9
        refine lv_iload_n hx hb dL_days_45 rfl (lv_at hl 4 rfl) ?_
        exact t_L_days_46 v0 v1 F hr K J11 hJ11 (v2 + (mA u v1 (((6 : Int32) * v0) + v5).toNatClampNeg)) v4 v5 (mA u v1 (((6 : Int32) * v0) + v5).toNatClampNeg) v3 u _ _ _ h hW (lv_sub hl [2, 3, 0, 5, 6, 1] rfl)
      · have h := h.2 hc9
        refine lv_iload hx hb dL_days_40 (lv_at hl 1 rfl) ?_
        refine lv_goto (tgt := 46) hx hb dL_days_42 (by decide) ?_
        exact t_L_days_46 v0 v1 F hr K J11 hJ11 (v2 + (mA u v1 (((6 : Int32) * v0) + v5).toNatClampNeg)) v4 v5 (mA u v1 (((6 : Int32) * v0) + v5).toNatClampNeg) (mA u v1 (((6 : Int32) * v0) + v5).toNatClampNeg) u _ _ _ h hW (lv_sub hl [2, 3, 0, 5, 6, 1] rfl)
set_option maxHeartbeats 4000000 in
set_option maxRecDepth 100000 in
theorem c_L_days {l : Launch} (hst : l.stackTraces = false) (G : Ctx) (v0 : Int32) (v1 : Nat) (u : Mem) (K : Int32 → Mem → Prop) (h : w_L_days G v0 v1 u K) : CtI l yL_days (.code yL_days cL_days 7 (some .int)) 0 0 0 0 G [.int v0, .ref v1] u K := by
  refine entM (by first | decide | decide +kernel) hst (by first | decide | exact Nat.le_of_ble_eq_true rfl) (fun p e s m below meth c ls F hr hnm hW hl => ?_)
  have F : Fx p l s m ([.int v0, .ref v1]).toArray meth c cL_days 7 RL G := F
  have hnm : meth.name = "days" := hnm
  have hl : lv_has ls 7 [(0, .int v0), (1, .ref v1)] := hl
  have hx := F.1.1
  have hb := F.1.2.1
  unfold w_L_days at h
  refine lv_iconst (v := (0 : Int32)) hx hb dL_days_0 (by decide) ?_
  refine lv_istore_n (lv' := [(2, .int (0 : Int32)), (0, .int v0), (1, .ref v1)]) hx hb dL_days_1 rfl hl (by decide) rfl (fun ls hl9 => ?_)
  replace hl := hl9
  clear hl9
  refine lv_bipush (v := (31 : Int32)) hx hb dL_days_2 (by decide) ?_
  refine lv_istore_n (lv' := [(3, .int (31 : Int32)), (2, .int (0 : Int32)), (0, .int v0), (1, .ref v1)]) hx hb dL_days_4 rfl hl (by decide) rfl (fun ls hl9 => ?_)
  replace hl := hl9
  clear hl9
  refine lv_iconst (v := (0 : Int32)) hx hb dL_days_5 (by decide) ?_
  refine lv_istore (lv' := [(4, .int (0 : Int32)), (3, .int (31 : Int32)), (2, .int (0 : Int32)), (0, .int v0), (1, .ref v1)]) hx hb dL_days_6 hl (by decide) rfl (fun ls hl9 => ?_)
  replace hl := hl9
  clear hl9
  refine lv_iconst (v := (3 : Int32)) hx hb dL_days_8 (by decide) ?_
  refine lv_istore (lv' := [(5, .int (3 : Int32)), (4, .int (0 : Int32)), (3, .int (31 : Int32)), (2, .int (0 : Int32)), (0, .int v0), (1, .ref v1)]) hx hb dL_days_9 hl (by decide) rfl (fun ls hl9 => ?_)
  replace hl := hl9
  clear hl9
  obtain ⟨n, h⟩ := h
  exact t_L_days_11 v0 v1 F hr K n (0 : Int32) (31 : Int32) (0 : Int32) (3 : Int32) u _ _ _ h hW (lv_sub hl [4, 5, 3, 2, 1, 0] rfl)
set_option maxHeartbeats 4000000 in
set_option maxRecDepth 100000 in
theorem t_L_way_14 {p : Program} {l : Launch} {e : Env} {s : State} {m : MethodId} {below : List Frame} {meth : Method} {c : Code} {G : Ctx} (v0 : Int32) (v1 : Int32) (F : Fx p l s m ([.int v0, .int v1]).toArray meth c cL_way 3 RL G) (hr : meth.sig.returnType = (some .int)) (K : Int32 → Mem → Prop) : ∀ (s0 : Int32) (u : Mem) (H : Heap) (locs : List Loc) (ls : Array Slot), w_L_way_14 G v0 v1 K s0 u → Wd G u s H locs → lv_has ls 3 [(0, .int v0), (1, .int v1)] → W p l e { frames := 0, cells := 0, slots := 0, locals := 0 } s m ([.int v0, .int v1]).toArray below meth c H locs 0 0 (MQ below (va_Qi K (fun u' t => Wp G u' t.heap) (Ab G)) ([.int v0, .int v1]).toArray s 0 0 (Ab G)) (F0 m 14 ls [.int s0]) := by
  have hx := F.1.1
  have hb := F.1.2.1
  intro s0 u H locs ls h hW hl
  unfold w_L_way_14 at h
  refine lv_istore_n (lv' := [(2, .int s0), (0, .int v0), (1, .int v1)]) hx hb dL_way_14 rfl hl (by decide) rfl (fun ls hl9 => ?_)
  replace hl := hl9
  clear hl9
  refine lv_iload_n hx hb dL_way_15 rfl (lv_at hl 0 rfl) ?_
  refine lv_iconst (v := (4 : Int32)) hx hb dL_way_16 (by decide) ?_
  refine lv_icmp_le (tgt := 27) hx hb dL_way_17 (by decide) (fun hc4 => ?_) (fun hc4 => ?_)
  · have h := h.1 hc4
    refine lv_iload_n hx hb dL_way_27 rfl (lv_at hl 0 rfl) ?_
    exact retI F hr hW h dL_way_28
  · have h := h.2 hc4
    refine lv_bipush (v := (8 : Int32)) hx hb dL_way_20 (by decide) ?_
    refine lv_iload_n hx hb dL_way_22 rfl (lv_at hl 0 rfl) ?_
    refine lv_isub hx hb dL_way_23 ?_
    refine lv_goto (tgt := 28) hx hb dL_way_24 (by decide) ?_
    exact retI F hr hW h dL_way_28
set_option maxHeartbeats 4000000 in
set_option maxRecDepth 100000 in
theorem c_L_way {l : Launch} (hst : l.stackTraces = false) (G : Ctx) (v0 : Int32) (v1 : Int32) (u : Mem) (K : Int32 → Mem → Prop) (h : w_L_way G v0 v1 u K) : CtI l yL_way (.code yL_way cL_way 3 (some .int)) 0 0 0 0 G [.int v0, .int v1] u K := by
  refine entM (by first | decide | decide +kernel) hst (by first | decide | exact Nat.le_of_ble_eq_true rfl) (fun p e s m below meth c ls F hr hnm hW hl => ?_)
  have F : Fx p l s m ([.int v0, .int v1]).toArray meth c cL_way 3 RL G := F
  have hnm : meth.name = "way" := hnm
  have hl : lv_has ls 3 [(0, .int v0), (1, .int v1)] := hl
  have hx := F.1.1
  have hb := F.1.2.1
  unfold w_L_way at h
  refine lv_iload_n hx hb dL_way_0 rfl (lv_at hl 0 rfl) ?_
  refine lv_iload_n hx hb dL_way_1 rfl (lv_at hl 1 rfl) ?_
  refine lv_icmp_ge (tgt := 11) hx hb dL_way_2 (by decide) (fun hc1 => ?_) (fun hc1 => ?_)
  · have h := h.1 hc1
    refine lv_iload_n hx hb dL_way_11 rfl (lv_at hl 0 rfl) ?_
    refine lv_iload_n hx hb dL_way_12 rfl (lv_at hl 1 rfl) ?_
    refine lv_isub hx hb dL_way_13 ?_
    exact t_L_way_14 v0 v1 F hr K (v0 - v1) u _ _ _ h hW (lv_sub hl [0, 1] rfl)
  · have h := h.2 hc1
    refine lv_iload_n hx hb dL_way_5 rfl (lv_at hl 1 rfl) ?_
    refine lv_iload_n hx hb dL_way_6 rfl (lv_at hl 0 rfl) ?_
    refine lv_isub hx hb dL_way_7 ?_
    refine lv_goto (tgt := 14) hx hb dL_way_8 (by decide) ?_
    exact t_L_way_14 v0 v1 F hr K (v1 - v0) u _ _ _ h hW (lv_sub hl [0, 1] rfl)
set_option maxHeartbeats 4000000 in
set_option maxRecDepth 100000 in
theorem c_L_step {l : Launch} (hst : l.stackTraces = false) (G : Ctx) (v0 : Int32) (v1 : Int32) (u : Mem) (K : Int32 → Mem → Prop) (h : w_L_step G v0 v1 u K) : CtI l yL_step (.code yL_step cL_step 3 (some .int)) 1 22 0 0 G [.int v0, .int v1] u K := by
  refine entM (by first | decide | decide +kernel) hst (by first | decide | exact Nat.le_of_ble_eq_true rfl) (fun p e s m below meth c ls F hr hnm hW hl => ?_)
  have F : Fx p l s m ([.int v0, .int v1]).toArray meth c cL_step 3 RL G := F
  have hnm : meth.name = "step" := hnm
  have hl : lv_has ls 3 [(0, .int v0), (1, .int v1)] := hl
  have hx := F.1.1
  have hb := F.1.2.1
  unfold w_L_step at h
  refine lv_iload_n hx hb dL_step_0 rfl (lv_at hl 0 rfl) ?_
  refine lv_iconst (v := (1 : Int32)) hx hb dL_step_1 (by decide) ?_
  refine lv_iadd hx hb dL_step_2 ?_
  refine lv_bipush (v := (8 : Int32)) hx hb dL_step_3 (by decide) ?_
  refine lv_irem hx hb dL_step_5 h.1 ?_
  replace h := h.2
  refine lv_istore_n (lv' := [(2, .int ((v0 + (1 : Int32)) - (v0 + (1 : Int32)) / (8 : Int32) * (8 : Int32))), (0, .int v0), (1, .int v1)]) hx hb dL_step_6 rfl hl (by decide) rfl (fun ls hl9 => ?_)
  replace hl := hl9
  clear hl9
  refine lv_iload_n hx hb dL_step_7 rfl (lv_at hl 1 rfl) ?_
  refine lv_iload_n hx hb dL_step_8 rfl (lv_at hl 2 rfl) ?_
  refine lv_icmp_ne (tgt := 16) hx hb dL_step_9 (by decide) (fun hc1 => ?_) (fun hc1 => ?_)
  · have h := h.2 hc1
    refine lv_iload_n hx hb dL_step_16 rfl (lv_at hl 0 rfl) ?_
    refine lv_iload_n hx hb dL_step_17 rfl (lv_at hl 2 rfl) ?_
    refine cI (runS (n := 2) (As := [.int ((v0 + (1 : Int32)) - (v0 + (1 : Int32)) / (8 : Int32) * (8 : Int32)), .int v1]) (rest := []) F hW (c_L_way F.2.2.2 G ((v0 + (1 : Int32)) - (v0 + (1 : Int32)) / (8 : Int32) * (8 : Int32)) v1 u _ h) q_332 q_333 q_68 q_334 (by decide +kernel) ⟨Nat.le_of_ble_eq_true rfl, Nat.le_of_ble_eq_true rfl⟩ dL_step_18 rfl hl.1 (Nat.le_of_ble_eq_true rfl) ⟨Nat.zero_le _, Nat.zero_le _⟩) hW (fun r3 u2 h9 H locs hW => ?_)
    replace h := h9
    clear h9
    refine lv_iload_n hx hb dL_step_21 rfl (lv_at hl 1 rfl) ?_
    refine lv_iload_n hx hb dL_step_22 rfl (lv_at hl 2 rfl) ?_
    refine cI (runS (n := 2) (As := [.int v0, .int v1]) (rest := [.int r3]) F hW (c_L_way F.2.2.2 G v0 v1 u2 _ h) q_332 q_333 q_68 q_334 (by decide +kernel) ⟨Nat.le_of_ble_eq_true rfl, Nat.le_of_ble_eq_true rfl⟩ dL_step_23 rfl hl.1 (Nat.le_of_ble_eq_true rfl) ⟨Nat.zero_le _, Nat.zero_le _⟩) hW (fun r5 u4 h9 H locs hW => ?_)
    replace h := h9
    clear h9
    refine lv_icmp_ge (tgt := 33) hx hb dL_step_26 (by decide) (fun hc6 => ?_) (fun hc6 => ?_)
    · have h := h.1 hc6
      refine lv_iload_n hx hb dL_step_33 rfl (lv_at hl 1 rfl) ?_
      refine lv_bipush (v := (7 : Int32)) hx hb dL_step_34 (by decide) ?_
      refine lv_iadd hx hb dL_step_36 ?_
      refine lv_bipush (v := (8 : Int32)) hx hb dL_step_37 (by decide) ?_
      refine lv_irem hx hb dL_step_39 h.1 ?_
      replace h := h.2
      exact retI F hr hW h dL_step_40
    · have h := h.2 hc6
      refine lv_iload_n hx hb dL_step_29 rfl (lv_at hl 0 rfl) ?_
      refine lv_goto (tgt := 40) hx hb dL_step_30 (by decide) ?_
      exact retI F hr hW h dL_step_40
  · have h := h.1 hc1
    refine lv_iload_n hx hb dL_step_12 rfl (lv_at hl 1 rfl) ?_
    refine lv_goto (tgt := 40) hx hb dL_step_13 (by decide) ?_
    exact retI F hr hW h dL_step_40
set_option maxHeartbeats 4000000 in
set_option maxRecDepth 100000 in
theorem t_L_shows_59 {p : Program} {l : Launch} {e : Env} {s : State} {m : MethodId} {below : List Frame} {meth : Method} {c : Code} {G : Ctx} (v0 : Int32) (v1 : Int32) (v2 : Int32) (v3 : Nat) (v4 : Nat) (v5 : Nat) (F : Fx p l s m ([.int v0, .int v1, .int v2, .ref v3, .ref v4, .ref v5]).toArray meth c cL_shows 8 RL G) (hr : meth.sig.returnType = (some .boolean)) (K : Int32 → Mem → Prop) (J6 : Int32 → Int32 → Mem → Prop) (hJ6 : ∀ (v6 : Int32) (v7 : Int32) (u : Mem) (H : Heap) (locs : List Loc) (ls : Array Slot), J6 v6 v7 u → Wd G u s H locs → lv_has ls 8 [(0, .int v0), (1, .int v1), (2, .int v2), (3, .ref v3), (4, .ref v4), (5, .ref v5), (6, .int v6), (7, .int v7)] → W p l e { frames := 0, cells := 0, slots := 0, locals := 0 } s m ([.int v0, .int v1, .int v2, .ref v3, .ref v4, .ref v5]).toArray below meth c H locs 0 0 (MQ below (va_Qi K (fun u' t => Wp G u' t.heap) (Ab G)) ([.int v0, .int v1, .int v2, .ref v3, .ref v4, .ref v5]).toArray s 0 0 (Ab G)) (F0 m 6 ls [])) : ∀ (v7 : Int32) (s0 : Int32) (u : Mem) (H : Heap) (locs : List Loc) (ls : Array Slot), w_L_shows_59 G v0 v1 v2 v3 v4 v5 K J6 v7 s0 u → Wd G u s H locs → lv_has ls 8 [(0, .int v0), (1, .int v1), (2, .int v2), (3, .ref v3), (4, .ref v4), (5, .ref v5), (7, .int v7)] → W p l e { frames := 0, cells := 0, slots := 0, locals := 0 } s m ([.int v0, .int v1, .int v2, .ref v3, .ref v4, .ref v5]).toArray below meth c H locs 0 0 (MQ below (va_Qi K (fun u' t => Wp G u' t.heap) (Ab G)) ([.int v0, .int v1, .int v2, .ref v3, .ref v4, .ref v5]).toArray s 0 0 (Ab G)) (F0 m 59 ls [.int s0]) := by
  have hx := F.1.1
  have hb := F.1.2.1
  intro v7 s0 u H locs ls h hW hl
  unfold w_L_shows_59 at h
  refine lv_istore (lv' := [(6, .int s0), (0, .int v0), (1, .int v1), (2, .int v2), (3, .ref v3), (4, .ref v4), (5, .ref v5), (7, .int v7)]) hx hb dL_shows_59 hl (by decide) rfl (fun ls hl9 => ?_)
  replace hl := hl9
  clear hl9
  refine lv_iinc (v := (v7 + 1)) (lv' := [(7, .int (v7 + 1)), (6, .int s0), (0, .int v0), (1, .int v1), (2, .int v2), (3, .ref v3), (4, .ref v4), (5, .ref v5)]) hx hb dL_shows_61 hl (k := 7) rfl rfl (by decide) rfl (fun ls hl9 => ?_)
  replace hl := hl9
  clear hl9
  refine lv_goto (tgt := 6) hx hb dL_shows_64 (by decide) ?_
  exact hJ6 s0 (v7 + 1) u _ _ _ h hW (lv_sub hl [2, 3, 4, 5, 6, 7, 1, 0] rfl)
set_option maxHeartbeats 4000000 in
set_option maxRecDepth 100000 in
theorem t_L_shows_58 {p : Program} {l : Launch} {e : Env} {s : State} {m : MethodId} {below : List Frame} {meth : Method} {c : Code} {G : Ctx} (v0 : Int32) (v1 : Int32) (v2 : Int32) (v3 : Nat) (v4 : Nat) (v5 : Nat) (F : Fx p l s m ([.int v0, .int v1, .int v2, .ref v3, .ref v4, .ref v5]).toArray meth c cL_shows 8 RL G) (hr : meth.sig.returnType = (some .boolean)) (K : Int32 → Mem → Prop) (J6 : Int32 → Int32 → Mem → Prop) (hJ6 : ∀ (v6 : Int32) (v7 : Int32) (u : Mem) (H : Heap) (locs : List Loc) (ls : Array Slot), J6 v6 v7 u → Wd G u s H locs → lv_has ls 8 [(0, .int v0), (1, .int v1), (2, .int v2), (3, .ref v3), (4, .ref v4), (5, .ref v5), (6, .int v6), (7, .int v7)] → W p l e { frames := 0, cells := 0, slots := 0, locals := 0 } s m ([.int v0, .int v1, .int v2, .ref v3, .ref v4, .ref v5]).toArray below meth c H locs 0 0 (MQ below (va_Qi K (fun u' t => Wp G u' t.heap) (Ab G)) ([.int v0, .int v1, .int v2, .ref v3, .ref v4, .ref v5]).toArray s 0 0 (Ab G)) (F0 m 6 ls [])) : ∀ (v7 : Int32) (u : Mem) (H : Heap) (locs : List Loc) (ls : Array Slot), w_L_shows_58 G v0 v1 v2 v3 v4 v5 K J6 v7 u → Wd G u s H locs → lv_has ls 8 [(0, .int v0), (1, .int v1), (2, .int v2), (3, .ref v3), (4, .ref v4), (5, .ref v5), (7, .int v7)] → W p l e { frames := 0, cells := 0, slots := 0, locals := 0 } s m ([.int v0, .int v1, .int v2, .ref v3, .ref v4, .ref v5]).toArray below meth c H locs 0 0 (MQ below (va_Qi K (fun u' t => Wp G u' t.heap) (Ab G)) ([.int v0, .int v1, .int v2, .ref v3, .ref v4, .ref v5]).toArray s 0 0 (Ab G)) (F0 m 58 ls []) := by
  have hx := F.1.1
  have hb := F.1.2.1
  intro v7 u H locs ls h hW hl
  unfold w_L_shows_58 at h
  refine lv_iconst (v := (0 : Int32)) hx hb dL_shows_58 (by decide) ?_
  exact t_L_shows_59 v0 v1 v2 v3 v4 v5 F hr K J6 hJ6 v7 (0 : Int32) u _ _ _ h hW (lv_sub hl [0, 1, 2, 3, 4, 5, 6] rfl)
set_option maxHeartbeats 4000000 in
set_option maxRecDepth 100000 in
theorem t_L_shows_54 {p : Program} {l : Launch} {e : Env} {s : State} {m : MethodId} {below : List Frame} {meth : Method} {c : Code} {G : Ctx} (v0 : Int32) (v1 : Int32) (v2 : Int32) (v3 : Nat) (v4 : Nat) (v5 : Nat) (F : Fx p l s m ([.int v0, .int v1, .int v2, .ref v3, .ref v4, .ref v5]).toArray meth c cL_shows 8 RL G) (hr : meth.sig.returnType = (some .boolean)) (K : Int32 → Mem → Prop) (J6 : Int32 → Int32 → Mem → Prop) (hJ6 : ∀ (v6 : Int32) (v7 : Int32) (u : Mem) (H : Heap) (locs : List Loc) (ls : Array Slot), J6 v6 v7 u → Wd G u s H locs → lv_has ls 8 [(0, .int v0), (1, .int v1), (2, .int v2), (3, .ref v3), (4, .ref v4), (5, .ref v5), (6, .int v6), (7, .int v7)] → W p l e { frames := 0, cells := 0, slots := 0, locals := 0 } s m ([.int v0, .int v1, .int v2, .ref v3, .ref v4, .ref v5]).toArray below meth c H locs 0 0 (MQ below (va_Qi K (fun u' t => Wp G u' t.heap) (Ab G)) ([.int v0, .int v1, .int v2, .ref v3, .ref v4, .ref v5]).toArray s 0 0 (Ab G)) (F0 m 6 ls [])) : ∀ (v7 : Int32) (u : Mem) (H : Heap) (locs : List Loc) (ls : Array Slot), w_L_shows_54 G v0 v1 v2 v3 v4 v5 K J6 v7 u → Wd G u s H locs → lv_has ls 8 [(0, .int v0), (1, .int v1), (2, .int v2), (3, .ref v3), (4, .ref v4), (5, .ref v5), (7, .int v7)] → W p l e { frames := 0, cells := 0, slots := 0, locals := 0 } s m ([.int v0, .int v1, .int v2, .ref v3, .ref v4, .ref v5]).toArray below meth c H locs 0 0 (MQ below (va_Qi K (fun u' t => Wp G u' t.heap) (Ab G)) ([.int v0, .int v1, .int v2, .ref v3, .ref v4, .ref v5]).toArray s 0 0 (Ab G)) (F0 m 54 ls []) := by
  have hx := F.1.1
  have hb := F.1.2.1
  intro v7 u H locs ls h hW hl
  unfold w_L_shows_54 at h
  refine lv_iconst (v := (1 : Int32)) hx hb dL_shows_54 (by decide) ?_
  refine lv_goto (tgt := 59) hx hb dL_shows_55 (by decide) ?_
  exact t_L_shows_59 v0 v1 v2 v3 v4 v5 F hr K J6 hJ6 v7 (1 : Int32) u _ _ _ h hW (lv_sub hl [0, 1, 2, 3, 4, 5, 6] rfl)
set_option maxHeartbeats 4000000 in
set_option maxRecDepth 100000 in
theorem t_L_shows_6 {p : Program} {l : Launch} {e : Env} {s : State} {m : MethodId} {below : List Frame} {meth : Method} {c : Code} {G : Ctx} (v0 : Int32) (v1 : Int32) (v2 : Int32) (v3 : Nat) (v4 : Nat) (v5 : Nat) (F : Fx p l s m ([.int v0, .int v1, .int v2, .ref v3, .ref v4, .ref v5]).toArray meth c cL_shows 8 RL G) (hr : meth.sig.returnType = (some .boolean)) (K : Int32 → Mem → Prop) : ∀ (n : Nat), ∀ (v6 : Int32) (v7 : Int32) (u : Mem) (H : Heap) (locs : List Loc) (ls : Array Slot), w_L_shows_6 G v0 v1 v2 v3 v4 v5 K n v6 v7 u → Wd G u s H locs → lv_has ls 8 [(0, .int v0), (1, .int v1), (2, .int v2), (3, .ref v3), (4, .ref v4), (5, .ref v5), (6, .int v6), (7, .int v7)] → W p l e { frames := 0, cells := 0, slots := 0, locals := 0 } s m ([.int v0, .int v1, .int v2, .ref v3, .ref v4, .ref v5]).toArray below meth c H locs 0 0 (MQ below (va_Qi K (fun u' t => Wp G u' t.heap) (Ab G)) ([.int v0, .int v1, .int v2, .ref v3, .ref v4, .ref v5]).toArray s 0 0 (Ab G)) (F0 m 6 ls []) := by
  have hx := F.1.1
  have hb := F.1.2.1
  intro n
  induction n with
  | zero =>
    intro v6 v7 u H locs ls h hW hl
    exact h.elim
  | succ n hJ6 =>
    intro v6 v7 u H locs ls h hW hl
    have h : b_L_shows_6 G v0 v1 v2 v3 v4 v5 K (w_L_shows_6 G v0 v1 v2 v3 v4 v5 K n) v6 v7 u := h
    revert h
    generalize w_L_shows_6 G v0 v1 v2 v3 v4 v5 K n = J6 at hJ6 ⊢
    intro h
    unfold b_L_shows_6 at h
    refine lv_iload hx hb dL_shows_6 (lv_at hl 7 rfl) ?_
    refine lv_aload hx hb dL_shows_8 (lv_at hl 5 rfl) ?_
    refine lv_iconst (v := (3 : Int32)) hx hb dL_shows_10 (by decide) ?_
    refine rIald F hW h.1 h.2.1 dL_shows_11 ?_
    replace h := h.2.2
    refine lv_icmp_ge (tgt := 67) hx hb dL_shows_12 (by decide) (fun hc11 => ?_) (fun hc11 => ?_)
    · have h := h.1 hc11
      refine lv_iload hx hb dL_shows_67 (lv_at hl 6 rfl) ?_
      exact retZ F hr hW h.1 h.2 dL_shows_69
    · have h := h.2 hc11
      refine lv_iload hx hb dL_shows_15 (lv_at hl 6 rfl) ?_
      refine lv_if_ne (tgt := 54) hx hb dL_shows_17 (by decide) (fun hc12 => ?_) (fun hc12 => ?_)
      · have h := h.2 hc12
        exact t_L_shows_54 v0 v1 v2 v3 v4 v5 F hr K J6 hJ6 v7 u _ _ _ h hW (lv_sub hl [0, 1, 2, 3, 4, 5, 7] rfl)
      · have h := h.1 hc12
        refine lv_iload_n hx hb dL_shows_20 rfl (lv_at hl 2 rfl) ?_
        refine lv_if_lt (tgt := 58) hx hb dL_shows_21 (by decide) (fun hc13 => ?_) (fun hc13 => ?_)
        · have h := h.1 hc13
          exact t_L_shows_58 v0 v1 v2 v3 v4 v5 F hr K J6 hJ6 v7 u _ _ _ h hW (lv_sub hl [0, 1, 2, 3, 4, 5, 7] rfl)
        · have h := h.2 hc13
          refine lv_aload_n hx hb dL_shows_24 rfl (lv_at hl 3 rfl) ?_
          refine lv_iload hx hb dL_shows_25 (lv_at hl 7 rfl) ?_
          refine rIald F hW h.1 h.2.1 dL_shows_27 ?_
          replace h := h.2.2
          refine lv_iload_n hx hb dL_shows_28 rfl (lv_at hl 0 rfl) ?_
          refine lv_bipush (v := (8 : Int32)) hx hb dL_shows_29 (by decide) ?_
          refine lv_iload_n hx hb dL_shows_31 rfl (lv_at hl 1 rfl) ?_
          refine lv_imul hx hb dL_shows_32 ?_
          refine lv_iadd hx hb dL_shows_33 ?_
          refine lv_bipush (v := (64 : Int32)) hx hb dL_shows_34 (by decide) ?_
          refine lv_iload_n hx hb dL_shows_36 rfl (lv_at hl 2 rfl) ?_
          refine lv_imul hx hb dL_shows_37 ?_
          refine lv_iadd hx hb dL_shows_38 ?_
          refine lv_icmp_ne (tgt := 58) hx hb dL_shows_39 (by decide) (fun hc14 => ?_) (fun hc14 => ?_)
          · have h := h.2 hc14
            exact t_L_shows_58 v0 v1 v2 v3 v4 v5 F hr K J6 hJ6 v7 u _ _ _ h hW (lv_sub hl [0, 1, 2, 3, 4, 5, 7] rfl)
          · have h := h.1 hc14
            refine lv_aload hx hb dL_shows_42 (lv_at hl 4 rfl) ?_
            refine lv_iload hx hb dL_shows_44 (lv_at hl 7 rfl) ?_
            refine rIald F hW h.1 h.2.1 dL_shows_46 ?_
            replace h := h.2.2
            refine lv_aload hx hb dL_shows_47 (lv_at hl 5 rfl) ?_
            refine lv_iconst (v := (0 : Int32)) hx hb dL_shows_49 (by decide) ?_
            refine rIald F hW h.1 h.2.1 dL_shows_50 ?_
            replace h := h.2.2
            refine lv_icmp_le (tgt := 58) hx hb dL_shows_51 (by decide) (fun hc15 => ?_) (fun hc15 => ?_)
            · have h := h.1 hc15
              exact t_L_shows_58 v0 v1 v2 v3 v4 v5 F hr K J6 hJ6 v7 u _ _ _ h hW (lv_sub hl [0, 1, 2, 3, 4, 5, 7] rfl)
            · have h := h.2 hc15
              exact t_L_shows_54 v0 v1 v2 v3 v4 v5 F hr K J6 hJ6 v7 u _ _ _ h hW (lv_sub hl [0, 1, 2, 3, 4, 5, 7] rfl)
set_option maxHeartbeats 4000000 in
set_option maxRecDepth 100000 in
theorem c_L_shows {l : Launch} (hst : l.stackTraces = false) (G : Ctx) (v0 : Int32) (v1 : Int32) (v2 : Int32) (v3 : Nat) (v4 : Nat) (v5 : Nat) (u : Mem) (K : Int32 → Mem → Prop) (h : w_L_shows G v0 v1 v2 v3 v4 v5 u K) : CtI l yL_shows (.code yL_shows cL_shows 8 (some .boolean)) 0 0 0 0 G [.int v0, .int v1, .int v2, .ref v3, .ref v4, .ref v5] u K := by
  refine entM (by first | decide | decide +kernel) hst (by first | decide | exact Nat.le_of_ble_eq_true rfl) (fun p e s m below meth c ls F hr hnm hW hl => ?_)
  have F : Fx p l s m ([.int v0, .int v1, .int v2, .ref v3, .ref v4, .ref v5]).toArray meth c cL_shows 8 RL G := F
  have hnm : meth.name = "shows" := hnm
  have hl : lv_has ls 8 [(0, .int v0), (1, .int v1), (2, .int v2), (3, .ref v3), (4, .ref v4), (5, .ref v5)] := hl
  have hx := F.1.1
  have hb := F.1.2.1
  unfold w_L_shows at h
  refine lv_iconst (v := (0 : Int32)) hx hb dL_shows_0 (by decide) ?_
  refine lv_istore (lv' := [(6, .int (0 : Int32)), (0, .int v0), (1, .int v1), (2, .int v2), (3, .ref v3), (4, .ref v4), (5, .ref v5)]) hx hb dL_shows_1 hl (by decide) rfl (fun ls hl9 => ?_)
  replace hl := hl9
  clear hl9
  refine lv_iconst (v := (0 : Int32)) hx hb dL_shows_3 (by decide) ?_
  refine lv_istore (lv' := [(7, .int (0 : Int32)), (6, .int (0 : Int32)), (0, .int v0), (1, .int v1), (2, .int v2), (3, .ref v3), (4, .ref v4), (5, .ref v5)]) hx hb dL_shows_4 hl (by decide) rfl (fun ls hl9 => ?_)
  replace hl := hl9
  clear hl9
  obtain ⟨n, h⟩ := h
  exact t_L_shows_6 v0 v1 v2 v3 v4 v5 F hr K n (0 : Int32) (0 : Int32) u _ _ _ h hW (lv_sub hl [2, 3, 4, 5, 6, 7, 1, 0] rfl)
set_option maxHeartbeats 4000000 in
set_option maxRecDepth 100000 in
theorem t_L_goes_311 {p : Program} {l : Launch} {e : Env} {s : State} {m : MethodId} {below : List Frame} {meth : Method} {c : Code} {G : Ctx} (v0 : Int32) (v1 : Nat) (v2 : Nat) (v3 : Nat) (v4 : Nat) (v5 : Nat) (v6 : Nat) (F : Fx p l s m ([.int v0, .ref v1, .ref v2, .ref v3, .ref v4, .ref v5, .ref v6]).toArray meth c cL_goes 11 RL G) (hr : meth.sig.returnType = (some .boolean)) (K : Int32 → Mem → Prop) : ∀ (v10 : Int32) (s0 : Int32) (s1 : Int32) (s2 : Nat) (u : Mem) (H : Heap) (locs : List Loc) (ls : Array Slot), w_L_goes_311 G v0 v1 v2 v3 v4 v5 v6 K v10 s0 s1 s2 u → Wd G u s H locs → lv_has ls 11 [(0, .int v0), (1, .ref v1), (2, .ref v2), (3, .ref v3), (4, .ref v4), (5, .ref v5), (6, .ref v6), (10, .int v10)] → W p l e { frames := 2, cells := 0, slots := 0, locals := 44 } s m ([.int v0, .ref v1, .ref v2, .ref v3, .ref v4, .ref v5, .ref v6]).toArray below meth c H locs 0 0 (MQ below (va_Qi K (fun u' t => Wp G u' t.heap) (Ab G)) ([.int v0, .ref v1, .ref v2, .ref v3, .ref v4, .ref v5, .ref v6]).toArray s 0 0 (Ab G)) (F0 m 311 ls [.int s0, .int s1, .ref s2]) := by
  have hx := F.1.1
  have hb := F.1.2.1
  intro v10 s0 s1 s2 u H locs ls h hW hl
  unfold w_L_goes_311 at h
  refine rIast F hW h.1 h.2.1 dL_goes_311 (fun H locs hW => ?_)
  replace h := h.2.2
  obtain ⟨u54, eu⟩ : ∃ z, z = setA u s2 (s1.toNatClampNeg) s0 := ⟨_, rfl⟩
  rw [← eu] at hW
  replace h := h u54 eu
  clear eu
  refine lv_iload hx hb dL_goes_312 (lv_at hl 7 rfl) ?_
  exact retZ F hr hW h.1 h.2 dL_goes_314
set_option maxHeartbeats 4000000 in
set_option maxRecDepth 100000 in
theorem t_L_goes_295 {p : Program} {l : Launch} {e : Env} {s : State} {m : MethodId} {below : List Frame} {meth : Method} {c : Code} {G : Ctx} (v0 : Int32) (v1 : Nat) (v2 : Nat) (v3 : Nat) (v4 : Nat) (v5 : Nat) (v6 : Nat) (F : Fx p l s m ([.int v0, .ref v1, .ref v2, .ref v3, .ref v4, .ref v5, .ref v6]).toArray meth c cL_goes 11 RL G) (hr : meth.sig.returnType = (some .boolean)) (K : Int32 → Mem → Prop) : ∀ (v7 : Int32) (v10 : Int32) (s0 : Int32) (s1 : Int32) (s2 : Nat) (u : Mem) (H : Heap) (locs : List Loc) (ls : Array Slot), w_L_goes_295 G v0 v1 v2 v3 v4 v5 v6 K v7 v10 s0 s1 s2 u → Wd G u s H locs → lv_has ls 11 [(0, .int v0), (1, .ref v1), (2, .ref v2), (3, .ref v3), (4, .ref v4), (5, .ref v5), (6, .ref v6), (7, .int v7), (10, .int v10)] → W p l e { frames := 2, cells := 0, slots := 0, locals := 44 } s m ([.int v0, .ref v1, .ref v2, .ref v3, .ref v4, .ref v5, .ref v6]).toArray below meth c H locs 0 0 (MQ below (va_Qi K (fun u' t => Wp G u' t.heap) (Ab G)) ([.int v0, .ref v1, .ref v2, .ref v3, .ref v4, .ref v5, .ref v6]).toArray s 0 0 (Ab G)) (F0 m 295 ls [.int s0, .int s1, .ref s2]) := by
  have hx := F.1.1
  have hb := F.1.2.1
  intro v7 v10 s0 s1 s2 u H locs ls h hW hl
  unfold w_L_goes_295 at h
  refine rIast F hW h.1 h.2.1 dL_goes_295 (fun H locs hW => ?_)
  replace h := h.2.2
  obtain ⟨u55, eu⟩ : ∃ z, z = setA u s2 (s1.toNatClampNeg) s0 := ⟨_, rfl⟩
  rw [← eu] at hW
  replace h := h u55 eu
  clear eu
  refine lv_aload_n hx hb dL_goes_296 rfl (lv_at hl 2 rfl) ?_
  refine lv_iload hx hb dL_goes_297 (lv_at hl 7 rfl) ?_
  refine lv_iconst (v := (2 : Int32)) hx hb dL_goes_299 (by decide) ?_
  refine lv_iadd hx hb dL_goes_300 ?_
  refine lv_iload hx hb dL_goes_301 (lv_at hl 8 rfl) ?_
  refine lv_if_eq (tgt := 310) hx hb dL_goes_303 (by decide) (fun hc56 => ?_) (fun hc56 => ?_)
  · have h := h.1 hc56
    refine lv_iload_n hx hb dL_goes_310 rfl (lv_at hl 0 rfl) ?_
    exact t_L_goes_311 v0 v1 v2 v3 v4 v5 v6 F hr K v10 v0 (v7 + (2 : Int32)) v2 u55 _ _ _ h hW (lv_sub hl [0, 1, 2, 3, 4, 5, 6, 8] rfl)
  · have h := h.2 hc56
    refine lv_iconst (v := (-1 : Int32)) hx hb dL_goes_306 (by decide) ?_
    refine lv_goto (tgt := 311) hx hb dL_goes_307 (by decide) ?_
    exact t_L_goes_311 v0 v1 v2 v3 v4 v5 v6 F hr K v10 (-1 : Int32) (v7 + (2 : Int32)) v2 u55 _ _ _ h hW (lv_sub hl [0, 1, 2, 3, 4, 5, 6, 8] rfl)
set_option maxHeartbeats 4000000 in
set_option maxRecDepth 100000 in
theorem t_L_goes_276 {p : Program} {l : Launch} {e : Env} {s : State} {m : MethodId} {below : List Frame} {meth : Method} {c : Code} {G : Ctx} (v0 : Int32) (v1 : Nat) (v2 : Nat) (v3 : Nat) (v4 : Nat) (v5 : Nat) (v6 : Nat) (F : Fx p l s m ([.int v0, .ref v1, .ref v2, .ref v3, .ref v4, .ref v5, .ref v6]).toArray meth c cL_goes 11 RL G) (hr : meth.sig.returnType = (some .boolean)) (K : Int32 → Mem → Prop) : ∀ (v7 : Int32) (s0 : Int32) (u : Mem) (H : Heap) (locs : List Loc) (ls : Array Slot), w_L_goes_276 G v0 v1 v2 v3 v4 v5 v6 K v7 s0 u → Wd G u s H locs → lv_has ls 11 [(0, .int v0), (1, .ref v1), (2, .ref v2), (3, .ref v3), (4, .ref v4), (5, .ref v5), (6, .ref v6), (7, .int v7)] → W p l e { frames := 2, cells := 0, slots := 0, locals := 44 } s m ([.int v0, .ref v1, .ref v2, .ref v3, .ref v4, .ref v5, .ref v6]).toArray below meth c H locs 0 0 (MQ below (va_Qi K (fun u' t => Wp G u' t.heap) (Ab G)) ([.int v0, .ref v1, .ref v2, .ref v3, .ref v4, .ref v5, .ref v6]).toArray s 0 0 (Ab G)) (F0 m 276 ls [.int s0]) := by
  have hx := F.1.1
  have hb := F.1.2.1
  intro v7 s0 u H locs ls h hW hl
  unfold w_L_goes_276 at h
  refine lv_istore (lv' := [(10, .int s0), (0, .int v0), (1, .ref v1), (2, .ref v2), (3, .ref v3), (4, .ref v4), (5, .ref v5), (6, .ref v6), (7, .int v7)]) hx hb dL_goes_276 hl (by decide) rfl (fun ls hl9 => ?_)
  replace hl := hl9
  clear hl9
  refine lv_aload_n hx hb dL_goes_278 rfl (lv_at hl 4 rfl) ?_
  refine lv_bipush (v := (6 : Int32)) hx hb dL_goes_279 (by decide) ?_
  refine lv_iload_n hx hb dL_goes_281 rfl (lv_at hl 1 rfl) ?_
  refine lv_imul hx hb dL_goes_282 ?_
  refine lv_iconst (v := (2 : Int32)) hx hb dL_goes_283 (by decide) ?_
  refine lv_iadd hx hb dL_goes_284 ?_
  refine lv_iload hx hb dL_goes_285 (lv_at hl 0 rfl) ?_
  refine lv_if_eq (tgt := 294) hx hb dL_goes_287 (by decide) (fun hc57 => ?_) (fun hc57 => ?_)
  · have h := h.1 hc57
    refine lv_iconst (v := (2 : Int32)) hx hb dL_goes_294 (by decide) ?_
    exact t_L_goes_295 v0 v1 v2 v3 v4 v5 v6 F hr K v7 s0 (2 : Int32) (((6 : Int32) * v0) + (2 : Int32)) v3 u _ _ _ h hW (lv_sub hl [1, 2, 3, 4, 5, 6, 7, 8, 0] rfl)
  · have h := h.2 hc57
    refine lv_iconst (v := (3 : Int32)) hx hb dL_goes_290 (by decide) ?_
    refine lv_goto (tgt := 295) hx hb dL_goes_291 (by decide) ?_
    exact t_L_goes_295 v0 v1 v2 v3 v4 v5 v6 F hr K v7 s0 (3 : Int32) (((6 : Int32) * v0) + (2 : Int32)) v3 u _ _ _ h hW (lv_sub hl [1, 2, 3, 4, 5, 6, 7, 8, 0] rfl)
set_option maxHeartbeats 4000000 in
set_option maxRecDepth 100000 in
theorem t_L_goes_258 {p : Program} {l : Launch} {e : Env} {s : State} {m : MethodId} {below : List Frame} {meth : Method} {c : Code} {G : Ctx} (v0 : Int32) (v1 : Nat) (v2 : Nat) (v3 : Nat) (v4 : Nat) (v5 : Nat) (v6 : Nat) (F : Fx p l s m ([.int v0, .ref v1, .ref v2, .ref v3, .ref v4, .ref v5, .ref v6]).toArray meth c cL_goes 11 RL G) (hr : meth.sig.returnType = (some .boolean)) (K : Int32 → Mem → Prop) : ∀ (v7 : Int32) (v8 : Int32) (u : Mem) (H : Heap) (locs : List Loc) (ls : Array Slot), w_L_goes_258 G v0 v1 v2 v3 v4 v5 v6 K v7 v8 u → Wd G u s H locs → lv_has ls 11 [(0, .int v0), (1, .ref v1), (2, .ref v2), (3, .ref v3), (4, .ref v4), (5, .ref v5), (6, .ref v6), (7, .int v7), (8, .int v8)] → W p l e { frames := 2, cells := 0, slots := 0, locals := 44 } s m ([.int v0, .ref v1, .ref v2, .ref v3, .ref v4, .ref v5, .ref v6]).toArray below meth c H locs 0 0 (MQ below (va_Qi K (fun u' t => Wp G u' t.heap) (Ab G)) ([.int v0, .ref v1, .ref v2, .ref v3, .ref v4, .ref v5, .ref v6]).toArray s 0 0 (Ab G)) (F0 m 258 ls []) := by
  have hx := F.1.1
  have hb := F.1.2.1
  intro v7 v8 u H locs ls h hW hl
  unfold w_L_goes_258 at h
  refine lv_iload hx hb dL_goes_258 (lv_at hl 8 rfl) ?_
  refine lv_aload_n hx hb dL_goes_260 rfl (lv_at hl 3 rfl) ?_
  refine lv_bipush (v := (6 : Int32)) hx hb dL_goes_261 (by decide) ?_
  refine lv_iload_n hx hb dL_goes_263 rfl (lv_at hl 0 rfl) ?_
  refine lv_imul hx hb dL_goes_264 ?_
  refine lv_iconst (v := (1 : Int32)) hx hb dL_goes_265 (by decide) ?_
  refine lv_iadd hx hb dL_goes_266 ?_
  refine rIald F hW h.1 h.2.1 dL_goes_267 ?_
  replace h := h.2.2
  refine lv_icmp_ne (tgt := 275) hx hb dL_goes_268 (by decide) (fun hc58 => ?_) (fun hc58 => ?_)
  · have h := h.2 hc58
    refine lv_iconst (v := (0 : Int32)) hx hb dL_goes_275 (by decide) ?_
    exact t_L_goes_276 v0 v1 v2 v3 v4 v5 v6 F hr K v7 (0 : Int32) u _ _ _ h hW (lv_sub hl [0, 1, 2, 3, 4, 5, 6, 7] rfl)
  · have h := h.1 hc58
    refine lv_iconst (v := (1 : Int32)) hx hb dL_goes_271 (by decide) ?_
    refine lv_goto (tgt := 276) hx hb dL_goes_272 (by decide) ?_
    exact t_L_goes_276 v0 v1 v2 v3 v4 v5 v6 F hr K v7 (1 : Int32) u _ _ _ h hW (lv_sub hl [0, 1, 2, 3, 4, 5, 6, 7] rfl)
set_option maxHeartbeats 4000000 in
set_option maxRecDepth 100000 in
theorem t_L_goes_167 {p : Program} {l : Launch} {e : Env} {s : State} {m : MethodId} {below : List Frame} {meth : Method} {c : Code} {G : Ctx} (v0 : Int32) (v1 : Nat) (v2 : Nat) (v3 : Nat) (v4 : Nat) (v5 : Nat) (v6 : Nat) (F : Fx p l s m ([.int v0, .ref v1, .ref v2, .ref v3, .ref v4, .ref v5, .ref v6]).toArray meth c cL_goes 11 RL G) (hr : meth.sig.returnType = (some .boolean)) (K : Int32 → Mem → Prop) : ∀ (v7 : Int32) (v8 : Int32) (s0 : Int32) (s1 : Int32) (s2 : Int32) (s3 : Nat) (u : Mem) (H : Heap) (locs : List Loc) (ls : Array Slot), w_L_goes_167 G v0 v1 v2 v3 v4 v5 v6 K v7 v8 s0 s1 s2 s3 u → Wd G u s H locs → lv_has ls 11 [(0, .int v0), (1, .ref v1), (2, .ref v2), (3, .ref v3), (4, .ref v4), (5, .ref v5), (6, .ref v6), (7, .int v7), (8, .int v8)] → W p l e { frames := 2, cells := 0, slots := 0, locals := 44 } s m ([.int v0, .ref v1, .ref v2, .ref v3, .ref v4, .ref v5, .ref v6]).toArray below meth c H locs 0 0 (MQ below (va_Qi K (fun u' t => Wp G u' t.heap) (Ab G)) ([.int v0, .ref v1, .ref v2, .ref v3, .ref v4, .ref v5, .ref v6]).toArray s 0 0 (Ab G)) (F0 m 167 ls [.int s0, .int s1, .int s2, .ref s3]) := by
  have hx := F.1.1
  have hb := F.1.2.1
  intro v7 v8 s0 s1 s2 s3 u H locs ls h hW hl
  unfold w_L_goes_167 at h
  refine lv_iadd hx hb dL_goes_167 ?_
  refine rIast F hW h.1 h.2.1 dL_goes_168 (fun H locs hW => ?_)
  replace h := h.2.2
  obtain ⟨u59, eu⟩ : ∃ z, z = setA u s3 (s2.toNatClampNeg) (s1 + s0) := ⟨_, rfl⟩
  rw [← eu] at hW
  replace h := h u59 eu
  clear eu
  refine lv_aload_n hx hb dL_goes_169 rfl (lv_at hl 1 rfl) ?_
  refine lv_bipush (v := (6 : Int32)) hx hb dL_goes_170 (by decide) ?_
  refine lv_iload hx hb dL_goes_172 (lv_at hl 8 rfl) ?_
  refine lv_imul hx hb dL_goes_174 ?_
  refine lv_iconst (v := (2 : Int32)) hx hb dL_goes_175 (by decide) ?_
  refine lv_iadd hx hb dL_goes_176 ?_
  refine rIald F hW h.1 h.2.1 dL_goes_177 ?_
  replace h := h.2.2
  refine lv_iconst (v := (1 : Int32)) hx hb dL_goes_178 (by decide) ?_
  refine lv_icmp_ne (tgt := 258) hx hb dL_goes_179 (by decide) (fun hc60 => ?_) (fun hc60 => ?_)
  · have h := h.2 hc60
    exact t_L_goes_258 v0 v1 v2 v3 v4 v5 v6 F hr K v7 v8 u59 _ _ _ h hW (lv_sub hl [0, 1, 2, 3, 4, 5, 6, 7, 8] rfl)
  · have h := h.1 hc60
    refine lv_aload hx hb dL_goes_182 (lv_at hl 6 rfl) ?_
    refine lv_iconst (v := (3 : Int32)) hx hb dL_goes_184 (by decide) ?_
    refine rIald F hW h.1 h.2.1 dL_goes_185 ?_
    replace h := h.2.2
    refine lv_bipush (v := (40 : Int32)) hx hb dL_goes_186 (by decide) ?_
    refine lv_icmp_ge (tgt := 258) hx hb dL_goes_188 (by decide) (fun hc61 => ?_) (fun hc61 => ?_)
    · have h := h.1 hc61
      exact t_L_goes_258 v0 v1 v2 v3 v4 v5 v6 F hr K v7 v8 u59 _ _ _ h hW (lv_sub hl [0, 1, 2, 3, 4, 5, 6, 7, 8] rfl)
    · have h := h.2 hc61
      refine lv_iload hx hb dL_goes_191 (lv_at hl 8 rfl) ?_
      refine lv_iload_n hx hb dL_goes_193 rfl (lv_at hl 0 rfl) ?_
      refine lv_aload hx hb dL_goes_194 (lv_at hl 6 rfl) ?_
      refine lv_iconst (v := (0 : Int32)) hx hb dL_goes_196 (by decide) ?_
      refine rIald F hW h.1 h.2.1 dL_goes_197 ?_
      replace h := h.2.2
      refine lv_aload hx hb dL_goes_198 (lv_at hl 4 rfl) ?_
      refine lv_aload hx hb dL_goes_200 (lv_at hl 5 rfl) ?_
      refine lv_aload hx hb dL_goes_202 (lv_at hl 6 rfl) ?_
      refine cI (runS (n := 6) (As := [.int v8, .int v0, .int (mA u59 v6 (0 : Int32).toNatClampNeg), .ref v4, .ref v5, .ref v6]) (rest := []) F hW (c_L_shows F.2.2.2 G v8 v0 (mA u59 v6 (0 : Int32).toNatClampNeg) v4 v5 v6 u59 _ h) q_341 q_342 q_68 q_343 (by decide +kernel) ⟨Nat.le_of_ble_eq_true rfl, Nat.le_of_ble_eq_true rfl⟩ dL_goes_204 rfl hl.1 (Nat.le_of_ble_eq_true rfl) ⟨Nat.zero_le _, Nat.zero_le _⟩) hW (fun r63 u62 h9 H locs hW => ?_)
      replace h := h9
      clear h9
      refine lv_if_ne (tgt := 258) hx hb dL_goes_207 (by decide) (fun hc64 => ?_) (fun hc64 => ?_)
      · have h := h.2 hc64
        exact t_L_goes_258 v0 v1 v2 v3 v4 v5 v6 F hr K v7 v8 u62 _ _ _ h hW (lv_sub hl [0, 1, 2, 3, 4, 5, 6, 7, 8] rfl)
      · have h := h.1 hc64
        refine lv_aload hx hb dL_goes_210 (lv_at hl 4 rfl) ?_
        refine lv_aload hx hb dL_goes_212 (lv_at hl 6 rfl) ?_
        refine lv_iconst (v := (3 : Int32)) hx hb dL_goes_214 (by decide) ?_
        refine rIald F hW h.1 h.2.1 dL_goes_215 ?_
        replace h := h.2.2
        refine lv_iload hx hb dL_goes_216 (lv_at hl 8 rfl) ?_
        refine lv_bipush (v := (8 : Int32)) hx hb dL_goes_218 (by decide) ?_
        refine lv_iload_n hx hb dL_goes_220 rfl (lv_at hl 0 rfl) ?_
        refine lv_imul hx hb dL_goes_221 ?_
        refine lv_iadd hx hb dL_goes_222 ?_
        refine lv_bipush (v := (64 : Int32)) hx hb dL_goes_223 (by decide) ?_
        refine lv_aload hx hb dL_goes_225 (lv_at hl 6 rfl) ?_
        refine lv_iconst (v := (0 : Int32)) hx hb dL_goes_227 (by decide) ?_
        refine rIald F hW h.1 h.2.1 dL_goes_228 ?_
        replace h := h.2.2
        refine lv_imul hx hb dL_goes_229 ?_
        refine lv_iadd hx hb dL_goes_230 ?_
        refine rIast F hW h.1 h.2.1 dL_goes_231 (fun H locs hW => ?_)
        replace h := h.2.2
        obtain ⟨u65, eu⟩ : ∃ z, z = setA u62 v4 ((mA u62 v6 (3 : Int32).toNatClampNeg).toNatClampNeg) ((v8 + ((8 : Int32) * v0)) + ((64 : Int32) * (mA u62 v6 (0 : Int32).toNatClampNeg))) := ⟨_, rfl⟩
        rw [← eu] at hW
        replace h := h u65 eu
        clear eu
        refine lv_aload hx hb dL_goes_232 (lv_at hl 5 rfl) ?_
        refine lv_aload hx hb dL_goes_234 (lv_at hl 6 rfl) ?_
        refine lv_iconst (v := (3 : Int32)) hx hb dL_goes_236 (by decide) ?_
        refine rIald F hW h.1 h.2.1 dL_goes_237 ?_
        replace h := h.2.2
        refine lv_aload hx hb dL_goes_238 (lv_at hl 6 rfl) ?_
        refine lv_iconst (v := (0 : Int32)) hx hb dL_goes_240 (by decide) ?_
        refine rIald F hW h.1 h.2.1 dL_goes_241 ?_
        replace h := h.2.2
        refine lv_iload hx hb dL_goes_242 (lv_at hl 8 rfl) ?_
        refine lv_aload_n hx hb dL_goes_244 rfl (lv_at hl 1 rfl) ?_
        refine cI (runS (n := 2) (As := [.int v8, .ref v1]) (rest := [.int (mA u65 v6 (0 : Int32).toNatClampNeg), .int (mA u65 v6 (3 : Int32).toNatClampNeg), .ref v5]) F hW (c_L_days F.2.2.2 G v8 v1 u65 _ h) q_191 q_192 q_68 q_193 (by decide +kernel) ⟨Nat.le_of_ble_eq_true rfl, Nat.le_of_ble_eq_true rfl⟩ dL_goes_245 rfl hl.1 (Nat.le_of_ble_eq_true rfl) ⟨Nat.zero_le _, Nat.zero_le _⟩) hW (fun r67 u66 h9 H locs hW => ?_)
        replace h := h9
        clear h9
        refine lv_iadd hx hb dL_goes_248 ?_
        refine rIast F hW h.1 h.2.1 dL_goes_249 (fun H locs hW => ?_)
        replace h := h.2.2
        obtain ⟨u68, eu⟩ : ∃ z, z = setA u66 v5 ((mA u65 v6 (3 : Int32).toNatClampNeg).toNatClampNeg) ((mA u65 v6 (0 : Int32).toNatClampNeg) + r67) := ⟨_, rfl⟩
        rw [← eu] at hW
        replace h := h u68 eu
        clear eu
        refine lv_aload hx hb dL_goes_250 (lv_at hl 6 rfl) ?_
        refine lv_iconst (v := (3 : Int32)) hx hb dL_goes_252 (by decide) ?_
        refine lv_dup2_11 hx hb dL_goes_253 rfl rfl ?_
        refine rIald F hW h.1 h.2.1 dL_goes_254 ?_
        replace h := h.2.2
        refine lv_iconst (v := (1 : Int32)) hx hb dL_goes_255 (by decide) ?_
        refine lv_iadd hx hb dL_goes_256 ?_
        refine rIast F hW h.1 h.2.1 dL_goes_257 (fun H locs hW => ?_)
        replace h := h.2.2
        obtain ⟨u69, eu⟩ : ∃ z, z = setA u68 v6 ((3 : Int32).toNatClampNeg) ((mA u68 v6 (3 : Int32).toNatClampNeg) + (1 : Int32)) := ⟨_, rfl⟩
        rw [← eu] at hW
        replace h := h u69 eu
        clear eu
        exact t_L_goes_258 v0 v1 v2 v3 v4 v5 v6 F hr K v7 v8 u69 _ _ _ h hW (lv_sub hl [0, 1, 2, 3, 4, 5, 6, 7, 8] rfl)
set_option maxHeartbeats 4000000 in
set_option maxRecDepth 100000 in
theorem t_L_goes_146 {p : Program} {l : Launch} {e : Env} {s : State} {m : MethodId} {below : List Frame} {meth : Method} {c : Code} {G : Ctx} (v0 : Int32) (v1 : Nat) (v2 : Nat) (v3 : Nat) (v4 : Nat) (v5 : Nat) (v6 : Nat) (F : Fx p l s m ([.int v0, .ref v1, .ref v2, .ref v3, .ref v4, .ref v5, .ref v6]).toArray meth c cL_goes 11 RL G) (hr : meth.sig.returnType = (some .boolean)) (K : Int32 → Mem → Prop) : ∀ (v7 : Int32) (v8 : Int32) (v9 : Int32) (s0 : Int32) (s1 : Int32) (s2 : Int32) (s3 : Nat) (u : Mem) (H : Heap) (locs : List Loc) (ls : Array Slot), w_L_goes_146 G v0 v1 v2 v3 v4 v5 v6 K v7 v8 v9 s0 s1 s2 s3 u → Wd G u s H locs → lv_has ls 11 [(0, .int v0), (1, .ref v1), (2, .ref v2), (3, .ref v3), (4, .ref v4), (5, .ref v5), (6, .ref v6), (7, .int v7), (8, .int v8), (9, .int v9)] → W p l e { frames := 2, cells := 0, slots := 0, locals := 44 } s m ([.int v0, .ref v1, .ref v2, .ref v3, .ref v4, .ref v5, .ref v6]).toArray below meth c H locs 0 0 (MQ below (va_Qi K (fun u' t => Wp G u' t.heap) (Ab G)) ([.int v0, .ref v1, .ref v2, .ref v3, .ref v4, .ref v5, .ref v6]).toArray s 0 0 (Ab G)) (F0 m 146 ls [.int s0, .int s1, .int s2, .ref s3]) := by
  have hx := F.1.1
  have hb := F.1.2.1
  intro v7 v8 v9 s0 s1 s2 s3 u H locs ls h hW hl
  unfold w_L_goes_146 at h
  refine lv_isub hx hb dL_goes_146 ?_
  refine rIast F hW h.1 h.2.1 dL_goes_147 (fun H locs hW => ?_)
  replace h := h.2.2
  obtain ⟨u70, eu⟩ : ∃ z, z = setA u s3 (s2.toNatClampNeg) (s1 - s0) := ⟨_, rfl⟩
  rw [← eu] at hW
  replace h := h u70 eu
  clear eu
  refine lv_aload_n hx hb dL_goes_148 rfl (lv_at hl 3 rfl) ?_
  refine lv_bipush (v := (6 : Int32)) hx hb dL_goes_149 (by decide) ?_
  refine lv_iload_n hx hb dL_goes_151 rfl (lv_at hl 0 rfl) ?_
  refine lv_imul hx hb dL_goes_152 ?_
  refine lv_iconst (v := (4 : Int32)) hx hb dL_goes_153 (by decide) ?_
  refine lv_iadd hx hb dL_goes_154 ?_
  refine lv_dup2_11 hx hb dL_goes_155 rfl rfl ?_
  refine rIald F hW h.1 h.2.1 dL_goes_156 ?_
  replace h := h.2.2
  refine lv_iload hx hb dL_goes_157 (lv_at hl 9 rfl) ?_
  refine lv_if_eq (tgt := 166) hx hb dL_goes_159 (by decide) (fun hc71 => ?_) (fun hc71 => ?_)
  · have h := h.1 hc71
    refine lv_iconst (v := (1 : Int32)) hx hb dL_goes_166 (by decide) ?_
    exact t_L_goes_167 v0 v1 v2 v3 v4 v5 v6 F hr K v7 v8 (1 : Int32) (mA u70 v3 (((6 : Int32) * v0) + (4 : Int32)).toNatClampNeg) (((6 : Int32) * v0) + (4 : Int32)) v3 u70 _ _ _ h hW (lv_sub hl [0, 1, 2, 3, 4, 5, 6, 7, 8] rfl)
  · have h := h.2 hc71
    refine lv_iconst (v := (0 : Int32)) hx hb dL_goes_162 (by decide) ?_
    refine lv_goto (tgt := 167) hx hb dL_goes_163 (by decide) ?_
    exact t_L_goes_167 v0 v1 v2 v3 v4 v5 v6 F hr K v7 v8 (0 : Int32) (mA u70 v3 (((6 : Int32) * v0) + (4 : Int32)).toNatClampNeg) (((6 : Int32) * v0) + (4 : Int32)) v3 u70 _ _ _ h hW (lv_sub hl [0, 1, 2, 3, 4, 5, 6, 7, 8] rfl)
set_option maxHeartbeats 4000000 in
set_option maxRecDepth 100000 in
theorem t_L_goes_118 {p : Program} {l : Launch} {e : Env} {s : State} {m : MethodId} {below : List Frame} {meth : Method} {c : Code} {G : Ctx} (v0 : Int32) (v1 : Nat) (v2 : Nat) (v3 : Nat) (v4 : Nat) (v5 : Nat) (v6 : Nat) (F : Fx p l s m ([.int v0, .ref v1, .ref v2, .ref v3, .ref v4, .ref v5, .ref v6]).toArray meth c cL_goes 11 RL G) (hr : meth.sig.returnType = (some .boolean)) (K : Int32 → Mem → Prop) : ∀ (v7 : Int32) (v8 : Int32) (s0 : Int32) (u : Mem) (H : Heap) (locs : List Loc) (ls : Array Slot), w_L_goes_118 G v0 v1 v2 v3 v4 v5 v6 K v7 v8 s0 u → Wd G u s H locs → lv_has ls 11 [(0, .int v0), (1, .ref v1), (2, .ref v2), (3, .ref v3), (4, .ref v4), (5, .ref v5), (6, .ref v6), (7, .int v7), (8, .int v8)] → W p l e { frames := 2, cells := 0, slots := 0, locals := 44 } s m ([.int v0, .ref v1, .ref v2, .ref v3, .ref v4, .ref v5, .ref v6]).toArray below meth c H locs 0 0 (MQ below (va_Qi K (fun u' t => Wp G u' t.heap) (Ab G)) ([.int v0, .ref v1, .ref v2, .ref v3, .ref v4, .ref v5, .ref v6]).toArray s 0 0 (Ab G)) (F0 m 118 ls [.int s0]) := by
  have hx := F.1.1
  have hb := F.1.2.1
  intro v7 v8 s0 u H locs ls h hW hl
  unfold w_L_goes_118 at h
  refine lv_istore (lv' := [(9, .int s0), (0, .int v0), (1, .ref v1), (2, .ref v2), (3, .ref v3), (4, .ref v4), (5, .ref v5), (6, .ref v6), (7, .int v7), (8, .int v8)]) hx hb dL_goes_118 hl (by decide) rfl (fun ls hl9 => ?_)
  replace hl := hl9
  clear hl9
  refine lv_aload_n hx hb dL_goes_120 rfl (lv_at hl 2 rfl) ?_
  refine lv_bipush (v := (6 : Int32)) hx hb dL_goes_121 (by decide) ?_
  refine lv_iload hx hb dL_goes_123 (lv_at hl 9 rfl) ?_
  refine lv_imul hx hb dL_goes_125 ?_
  refine lv_dup2_11 hx hb dL_goes_126 rfl rfl ?_
  refine rIald F hW h.1 h.2.1 dL_goes_127 ?_
  replace h := h.2.2
  refine lv_iload hx hb dL_goes_128 (lv_at hl 0 rfl) ?_
  refine lv_if_eq (tgt := 145) hx hb dL_goes_130 (by decide) (fun hc72 => ?_) (fun hc72 => ?_)
  · have h := h.1 hc72
    refine lv_iconst (v := (0 : Int32)) hx hb dL_goes_145 (by decide) ?_
    exact t_L_goes_146 v0 v1 v2 v3 v4 v5 v6 F hr K v7 v8 s0 (0 : Int32) (mA u v1 ((6 : Int32) * v8).toNatClampNeg) ((6 : Int32) * v8) v1 u _ _ _ h hW (lv_sub hl [1, 2, 3, 4, 5, 6, 7, 8, 9, 0] rfl)
  · have h := h.2 hc72
    refine lv_aload_n hx hb dL_goes_133 rfl (lv_at hl 2 rfl) ?_
    refine lv_bipush (v := (6 : Int32)) hx hb dL_goes_134 (by decide) ?_
    refine lv_iload hx hb dL_goes_136 (lv_at hl 9 rfl) ?_
    refine lv_imul hx hb dL_goes_138 ?_
    refine lv_iconst (v := (1 : Int32)) hx hb dL_goes_139 (by decide) ?_
    refine lv_iadd hx hb dL_goes_140 ?_
    refine rIald F hW h.1 h.2.1 dL_goes_141 ?_
    replace h := h.2.2
    refine lv_goto (tgt := 146) hx hb dL_goes_142 (by decide) ?_
    exact t_L_goes_146 v0 v1 v2 v3 v4 v5 v6 F hr K v7 v8 s0 (mA u v1 (((6 : Int32) * v8) + (1 : Int32)).toNatClampNeg) (mA u v1 ((6 : Int32) * v8).toNatClampNeg) ((6 : Int32) * v8) v1 u _ _ _ h hW (lv_sub hl [1, 2, 3, 4, 5, 6, 7, 8, 9, 0] rfl)
set_option maxHeartbeats 4000000 in
set_option maxRecDepth 100000 in
theorem t_L_goes_79 {p : Program} {l : Launch} {e : Env} {s : State} {m : MethodId} {below : List Frame} {meth : Method} {c : Code} {G : Ctx} (v0 : Int32) (v1 : Nat) (v2 : Nat) (v3 : Nat) (v4 : Nat) (v5 : Nat) (v6 : Nat) (F : Fx p l s m ([.int v0, .ref v1, .ref v2, .ref v3, .ref v4, .ref v5, .ref v6]).toArray meth c cL_goes 11 RL G) (hr : meth.sig.returnType = (some .boolean)) (K : Int32 → Mem → Prop) : ∀ (v7 : Int32) (u : Mem) (H : Heap) (locs : List Loc) (ls : Array Slot), w_L_goes_79 G v0 v1 v2 v3 v4 v5 v6 K v7 u → Wd G u s H locs → lv_has ls 11 [(0, .int v0), (1, .ref v1), (2, .ref v2), (3, .ref v3), (4, .ref v4), (5, .ref v5), (6, .ref v6), (7, .int v7)] → W p l e { frames := 2, cells := 0, slots := 0, locals := 44 } s m ([.int v0, .ref v1, .ref v2, .ref v3, .ref v4, .ref v5, .ref v6]).toArray below meth c H locs 0 0 (MQ below (va_Qi K (fun u' t => Wp G u' t.heap) (Ab G)) ([.int v0, .ref v1, .ref v2, .ref v3, .ref v4, .ref v5, .ref v6]).toArray s 0 0 (Ab G)) (F0 m 79 ls []) := by
  have hx := F.1.1
  have hb := F.1.2.1
  intro v7 u H locs ls h hW hl
  unfold w_L_goes_79 at h
  refine lv_aload_n hx hb dL_goes_79 rfl (lv_at hl 3 rfl) ?_
  refine lv_bipush (v := (6 : Int32)) hx hb dL_goes_80 (by decide) ?_
  refine lv_iload_n hx hb dL_goes_82 rfl (lv_at hl 0 rfl) ?_
  refine lv_imul hx hb dL_goes_83 ?_
  refine lv_iconst (v := (2 : Int32)) hx hb dL_goes_84 (by decide) ?_
  refine lv_iadd hx hb dL_goes_85 ?_
  refine lv_iconst (v := (2 : Int32)) hx hb dL_goes_86 (by decide) ?_
  refine rIast F hW h.1 h.2.1 dL_goes_87 (fun H locs hW => ?_)
  replace h := h.2.2
  obtain ⟨u73, eu⟩ : ∃ z, z = setA u v3 ((((6 : Int32) * v0) + (2 : Int32)).toNatClampNeg) (2 : Int32) := ⟨_, rfl⟩
  rw [← eu] at hW
  replace h := h u73 eu
  clear eu
  refine lv_aload_n hx hb dL_goes_88 rfl (lv_at hl 2 rfl) ?_
  refine lv_iload hx hb dL_goes_89 (lv_at hl 7 rfl) ?_
  refine rIald F hW h.1 h.2.1 dL_goes_91 ?_
  replace h := h.2.2
  refine lv_istore (lv' := [(8, .int (mA u73 v2 v7.toNatClampNeg)), (0, .int v0), (1, .ref v1), (2, .ref v2), (3, .ref v3), (4, .ref v4), (5, .ref v5), (6, .ref v6), (7, .int v7)]) hx hb dL_goes_92 hl (by decide) rfl (fun ls hl9 => ?_)
  replace hl := hl9
  clear hl9
  refine lv_aload_n hx hb dL_goes_94 rfl (lv_at hl 2 rfl) ?_
  refine lv_bipush (v := (6 : Int32)) hx hb dL_goes_95 (by decide) ?_
  refine lv_iload hx hb dL_goes_97 (lv_at hl 0 rfl) ?_
  refine lv_imul hx hb dL_goes_99 ?_
  refine rIald F hW h.1 h.2.1 dL_goes_100 ?_
  replace h := h.2.2
  refine lv_aload_n hx hb dL_goes_101 rfl (lv_at hl 2 rfl) ?_
  refine lv_bipush (v := (6 : Int32)) hx hb dL_goes_102 (by decide) ?_
  refine lv_iload hx hb dL_goes_104 (lv_at hl 0 rfl) ?_
  refine lv_imul hx hb dL_goes_106 ?_
  refine lv_iconst (v := (1 : Int32)) hx hb dL_goes_107 (by decide) ?_
  refine lv_iadd hx hb dL_goes_108 ?_
  refine rIald F hW h.1 h.2.1 dL_goes_109 ?_
  replace h := h.2.2
  refine lv_icmp_lt (tgt := 117) hx hb dL_goes_110 (by decide) (fun hc74 => ?_) (fun hc74 => ?_)
  · have h := h.1 hc74
    refine lv_iconst (v := (0 : Int32)) hx hb dL_goes_117 (by decide) ?_
    exact t_L_goes_118 v0 v1 v2 v3 v4 v5 v6 F hr K v7 (mA u73 v2 v7.toNatClampNeg) (0 : Int32) u73 _ _ _ h hW (lv_sub hl [1, 2, 3, 4, 5, 6, 7, 8, 0] rfl)
  · have h := h.2 hc74
    refine lv_iconst (v := (1 : Int32)) hx hb dL_goes_113 (by decide) ?_
    refine lv_goto (tgt := 118) hx hb dL_goes_114 (by decide) ?_
    exact t_L_goes_118 v0 v1 v2 v3 v4 v5 v6 F hr K v7 (mA u73 v2 v7.toNatClampNeg) (1 : Int32) u73 _ _ _ h hW (lv_sub hl [1, 2, 3, 4, 5, 6, 7, 8, 0] rfl)
set_option maxHeartbeats 4000000 in
set_option maxRecDepth 100000 in
theorem t_L_goes_48 {p : Program} {l : Launch} {e : Env} {s : State} {m : MethodId} {below : List Frame} {meth : Method} {c : Code} {G : Ctx} (v0 : Int32) (v1 : Nat) (v2 : Nat) (v3 : Nat) (v4 : Nat) (v5 : Nat) (v6 : Nat) (F : Fx p l s m ([.int v0, .ref v1, .ref v2, .ref v3, .ref v4, .ref v5, .ref v6]).toArray meth c cL_goes 11 RL G) (hr : meth.sig.returnType = (some .boolean)) (K : Int32 → Mem → Prop) : ∀ (v7 : Int32) (s0 : Int32) (s1 : Int32) (s2 : Int32) (s3 : Nat) (u : Mem) (H : Heap) (locs : List Loc) (ls : Array Slot), w_L_goes_48 G v0 v1 v2 v3 v4 v5 v6 K v7 s0 s1 s2 s3 u → Wd G u s H locs → lv_has ls 11 [(0, .int v0), (1, .ref v1), (2, .ref v2), (3, .ref v3), (4, .ref v4), (5, .ref v5), (6, .ref v6), (7, .int v7)] → W p l e { frames := 2, cells := 0, slots := 0, locals := 44 } s m ([.int v0, .ref v1, .ref v2, .ref v3, .ref v4, .ref v5, .ref v6]).toArray below meth c H locs 0 0 (MQ below (va_Qi K (fun u' t => Wp G u' t.heap) (Ab G)) ([.int v0, .ref v1, .ref v2, .ref v3, .ref v4, .ref v5, .ref v6]).toArray s 0 0 (Ab G)) (F0 m 48 ls [.int s0, .int s1, .int s2, .ref s3]) := by
  have hx := F.1.1
  have hb := F.1.2.1
  intro v7 s0 s1 s2 s3 u H locs ls h hW hl
  unfold w_L_goes_48 at h
  refine cI (runS (n := 2) (As := [.int s1, .int s0]) (rest := [.int s2, .ref s3]) F hW (c_L_step F.2.2.2 G s1 s0 u _ h) q_338 q_339 q_68 q_340 (by decide +kernel) ⟨Nat.le_of_ble_eq_true rfl, Nat.le_of_ble_eq_true rfl⟩ dL_goes_48 rfl hl.1 (Nat.le_of_ble_eq_true rfl) ⟨Nat.zero_le _, Nat.zero_le _⟩) hW (fun r76 u75 h9 H locs hW => ?_)
  replace h := h9
  clear h9
  refine rIast F hW h.1 h.2.1 dL_goes_51 (fun H locs hW => ?_)
  replace h := h.2.2
  obtain ⟨u77, eu⟩ : ∃ z, z = setA u75 s3 (s2.toNatClampNeg) r76 := ⟨_, rfl⟩
  rw [← eu] at hW
  replace h := h u77 eu
  clear eu
  refine lv_aload_n hx hb dL_goes_52 rfl (lv_at hl 3 rfl) ?_
  refine lv_bipush (v := (6 : Int32)) hx hb dL_goes_53 (by decide) ?_
  refine lv_iload_n hx hb dL_goes_55 rfl (lv_at hl 0 rfl) ?_
  refine lv_imul hx hb dL_goes_56 ?_
  refine lv_iconst (v := (2 : Int32)) hx hb dL_goes_57 (by decide) ?_
  refine lv_iadd hx hb dL_goes_58 ?_
  refine rIald F hW h.1 h.2.1 dL_goes_59 ?_
  replace h := h.2.2
  refine lv_iconst (v := (1 : Int32)) hx hb dL_goes_60 (by decide) ?_
  refine lv_icmp_ne (tgt := 79) hx hb dL_goes_61 (by decide) (fun hc78 => ?_) (fun hc78 => ?_)
  · have h := h.2 hc78
    exact t_L_goes_79 v0 v1 v2 v3 v4 v5 v6 F hr K v7 u77 _ _ _ h hW (lv_sub hl [0, 1, 2, 3, 4, 5, 6, 7] rfl)
  · have h := h.1 hc78
    refine lv_aload_n hx hb dL_goes_64 rfl (lv_at hl 2 rfl) ?_
    refine lv_iload hx hb dL_goes_65 (lv_at hl 7 rfl) ?_
    refine rIald F hW h.1 h.2.1 dL_goes_67 ?_
    replace h := h.2.2
    refine lv_aload_n hx hb dL_goes_68 rfl (lv_at hl 3 rfl) ?_
    refine lv_bipush (v := (6 : Int32)) hx hb dL_goes_69 (by decide) ?_
    refine lv_iload_n hx hb dL_goes_71 rfl (lv_at hl 0 rfl) ?_
    refine lv_imul hx hb dL_goes_72 ?_
    refine rIald F hW h.1 h.2.1 dL_goes_73 ?_
    replace h := h.2.2
    refine lv_icmp_eq (tgt := 79) hx hb dL_goes_74 (by decide) (fun hc79 => ?_) (fun hc79 => ?_)
    · have h := h.1 hc79
      exact t_L_goes_79 v0 v1 v2 v3 v4 v5 v6 F hr K v7 u77 _ _ _ h hW (lv_sub hl [0, 1, 2, 3, 4, 5, 6, 7] rfl)
    · have h := h.2 hc79
      refine lv_iconst (v := (0 : Int32)) hx hb dL_goes_77 (by decide) ?_
      exact retZ F hr hW h.1 h.2 dL_goes_78
set_option maxHeartbeats 4000000 in
set_option maxRecDepth 100000 in
theorem c_L_goes {l : Launch} (hst : l.stackTraces = false) (G : Ctx) (v0 : Int32) (v1 : Nat) (v2 : Nat) (v3 : Nat) (v4 : Nat) (v5 : Nat) (v6 : Nat) (u : Mem) (K : Int32 → Mem → Prop) (h : w_L_goes G v0 v1 v2 v3 v4 v5 v6 u K) : CtI l yL_goes (.code yL_goes cL_goes 11 (some .boolean)) 2 44 0 0 G [.int v0, .ref v1, .ref v2, .ref v3, .ref v4, .ref v5, .ref v6] u K := by
  refine entM (by first | decide | decide +kernel) hst (by first | decide | exact Nat.le_of_ble_eq_true rfl) (fun p e s m below meth c ls F hr hnm hW hl => ?_)
  have F : Fx p l s m ([.int v0, .ref v1, .ref v2, .ref v3, .ref v4, .ref v5, .ref v6]).toArray meth c cL_goes 11 RL G := F
  have hnm : meth.name = "goes" := hnm
  have hl : lv_has ls 11 [(0, .int v0), (1, .ref v1), (2, .ref v2), (3, .ref v3), (4, .ref v4), (5, .ref v5), (6, .ref v6)] := hl
  have hx := F.1.1
  have hb := F.1.2.1
  unfold w_L_goes at h
  refine lv_iconst (v := (3 : Int32)) hx hb dL_goes_0 (by decide) ?_
  refine lv_aload_n hx hb dL_goes_1 rfl (lv_at hl 3 rfl) ?_
  refine lv_bipush (v := (6 : Int32)) hx hb dL_goes_2 (by decide) ?_
  refine lv_iload_n hx hb dL_goes_4 rfl (lv_at hl 0 rfl) ?_
  refine lv_imul hx hb dL_goes_5 ?_
  refine lv_iconst (v := (3 : Int32)) hx hb dL_goes_6 (by decide) ?_
  refine lv_iadd hx hb dL_goes_7 ?_
  refine rIald F hW h.1 h.2.1 dL_goes_8 ?_
  replace h := h.2.2
  refine lv_imul hx hb dL_goes_9 ?_
  refine lv_istore (lv' := [(7, .int ((3 : Int32) * (mA u v3 (((6 : Int32) * v0) + (3 : Int32)).toNatClampNeg))), (0, .int v0), (1, .ref v1), (2, .ref v2), (3, .ref v3), (4, .ref v4), (5, .ref v5), (6, .ref v6)]) hx hb dL_goes_10 hl (by decide) rfl (fun ls hl9 => ?_)
  replace hl := hl9
  clear hl9
  refine lv_aload_n hx hb dL_goes_12 rfl (lv_at hl 3 rfl) ?_
  refine lv_iload hx hb dL_goes_13 (lv_at hl 0 rfl) ?_
  refine lv_aload_n hx hb dL_goes_15 rfl (lv_at hl 3 rfl) ?_
  refine lv_iload hx hb dL_goes_16 (lv_at hl 0 rfl) ?_
  refine rIald F hW h.1 h.2.1 dL_goes_18 ?_
  replace h := h.2.2
  refine lv_aload_n hx hb dL_goes_19 rfl (lv_at hl 4 rfl) ?_
  refine lv_bipush (v := (6 : Int32)) hx hb dL_goes_20 (by decide) ?_
  refine lv_iload_n hx hb dL_goes_22 rfl (lv_at hl 1 rfl) ?_
  refine lv_imul hx hb dL_goes_23 ?_
  refine lv_iconst (v := (2 : Int32)) hx hb dL_goes_24 (by decide) ?_
  refine lv_iadd hx hb dL_goes_25 ?_
  refine rIald F hW h.1 h.2.1 dL_goes_26 ?_
  replace h := h.2.2
  refine lv_iconst (v := (2 : Int32)) hx hb dL_goes_27 (by decide) ?_
  refine lv_icmp_ne (tgt := 42) hx hb dL_goes_28 (by decide) (fun hc1 => ?_) (fun hc1 => ?_)
  · have h := h.2 hc1
    refine lv_aload_n hx hb dL_goes_42 rfl (lv_at hl 4 rfl) ?_
    refine lv_bipush (v := (6 : Int32)) hx hb dL_goes_43 (by decide) ?_
    refine lv_iload_n hx hb dL_goes_45 rfl (lv_at hl 1 rfl) ?_
    refine lv_imul hx hb dL_goes_46 ?_
    refine rIald F hW h.1 h.2.1 dL_goes_47 ?_
    replace h := h.2.2
    exact t_L_goes_48 v0 v1 v2 v3 v4 v5 v6 F hr K ((3 : Int32) * (mA u v3 (((6 : Int32) * v0) + (3 : Int32)).toNatClampNeg)) (mA u v3 ((6 : Int32) * v0).toNatClampNeg) (mA u v2 ((3 : Int32) * (mA u v3 (((6 : Int32) * v0) + (3 : Int32)).toNatClampNeg)).toNatClampNeg) ((3 : Int32) * (mA u v3 (((6 : Int32) * v0) + (3 : Int32)).toNatClampNeg)) v2 u _ _ _ h hW (lv_sub hl [1, 2, 3, 4, 5, 6, 7, 0] rfl)
  · have h := h.1 hc1
    refine lv_aload_n hx hb dL_goes_31 rfl (lv_at hl 4 rfl) ?_
    refine lv_bipush (v := (6 : Int32)) hx hb dL_goes_32 (by decide) ?_
    refine lv_iload_n hx hb dL_goes_34 rfl (lv_at hl 1 rfl) ?_
    refine lv_imul hx hb dL_goes_35 ?_
    refine lv_iconst (v := (1 : Int32)) hx hb dL_goes_36 (by decide) ?_
    refine lv_iadd hx hb dL_goes_37 ?_
    refine rIald F hW h.1 h.2.1 dL_goes_38 ?_
    replace h := h.2.2
    refine lv_goto (tgt := 48) hx hb dL_goes_39 (by decide) ?_
    exact t_L_goes_48 v0 v1 v2 v3 v4 v5 v6 F hr K ((3 : Int32) * (mA u v3 (((6 : Int32) * v0) + (3 : Int32)).toNatClampNeg)) (mA u v3 (((6 : Int32) * v0) + (1 : Int32)).toNatClampNeg) (mA u v2 ((3 : Int32) * (mA u v3 (((6 : Int32) * v0) + (3 : Int32)).toNatClampNeg)).toNatClampNeg) ((3 : Int32) * (mA u v3 (((6 : Int32) * v0) + (3 : Int32)).toNatClampNeg)) v2 u _ _ _ h hW (lv_sub hl [1, 2, 3, 4, 5, 6, 7, 0] rfl)
set_option maxHeartbeats 4000000 in
set_option maxRecDepth 100000 in
theorem c_L_low {l : Launch} (hst : l.stackTraces = false) (G : Ctx) (v0 : Int32) (v1 : Int32) (u : Mem) (K : Int32 → Mem → Prop) (h : w_L_low G v0 v1 u K) : CtI l yL_low (.code yL_low cL_low 2 (some .int)) 0 0 0 0 G [.int v0, .int v1] u K := by
  refine entM (by first | decide | decide +kernel) hst (by first | decide | exact Nat.le_of_ble_eq_true rfl) (fun p e s m below meth c ls F hr hnm hW hl => ?_)
  have F : Fx p l s m ([.int v0, .int v1]).toArray meth c cL_low 2 RL G := F
  have hnm : meth.name = "low" := hnm
  have hl : lv_has ls 2 [(0, .int v0), (1, .int v1)] := hl
  have hx := F.1.1
  have hb := F.1.2.1
  unfold w_L_low at h
  refine lv_iload_n hx hb dL_low_0 rfl (lv_at hl 0 rfl) ?_
  refine lv_ldc hx hb F.1.2.2.2.1 (F.1.2.2.2.2 _ q_75) dL_low_1 ?_
  refine lv_iand hx hb dL_low_3 ?_
  refine lv_iload_n hx hb dL_low_4 rfl (lv_at hl 1 rfl) ?_
  refine lv_irem hx hb dL_low_5 h.1 ?_
  replace h := h.2
  exact retI F hr hW h dL_low_6
set_option maxHeartbeats 4000000 in
set_option maxRecDepth 100000 in
theorem t_L_isSo_517 {p : Program} {l : Launch} {e : Env} {s : State} {m : MethodId} {below : List Frame} {meth : Method} {c : Code} {G : Ctx} (v0 : Nat) (v1 : Int32) (v2 : Nat) (v3 : Nat) (v4 : Nat) (v5 : Nat) (v6 : Nat) (v7 : Nat) (MC MS : Nat) (F : Fx p l s m ([.ref v0, .int v1, .ref v2, .ref v3, .ref v4, .ref v5, .ref v6, .ref v7]).toArray meth c cL_isSo 13 RL G) (hr : meth.sig.returnType = (some .boolean)) (K : Int32 → Mem → Prop) (J334 : Int32 → Int32 → Nat → Nat → Mem → Prop) (hJ334 : ∀ (v9 : Int32) (v10 : Int32) (mc ms : Nat) (u : Mem) (H : Heap) (locs : List Loc) (cells slots : Nat) (ls : Array Slot), J334 v9 v10 mc ms u → Wd G u s H locs → lv_has ls 13 [(0, .ref v0), (1, .int v1), (2, .ref v2), (3, .ref v3), (4, .ref v4), (5, .ref v5), (6, .ref v6), (7, .ref v7), (9, .int v9), (10, .int v10)] → cells + mc = MC → slots + ms = MS → W p l e { frames := 7, cells := MC, slots := MS, locals := 123 } s m ([.ref v0, .int v1, .ref v2, .ref v3, .ref v4, .ref v5, .ref v6, .ref v7]).toArray below meth c H locs cells slots (MQ below (va_Qi K (fun u' t => Wp G u' t.heap) (Ab G)) ([.ref v0, .int v1, .ref v2, .ref v3, .ref v4, .ref v5, .ref v6, .ref v7]).toArray s MC MS (Ab G)) (F0 m 334 ls [])) : ∀ (v10 : Int32) (s0 : Int32) (mc ms : Nat) (u : Mem) (H : Heap) (locs : List Loc) (cells slots : Nat) (ls : Array Slot), w_L_isSo_517 G v0 v1 v2 v3 v4 v5 v6 v7 K J334 v10 s0 mc ms u → Wd G u s H locs → lv_has ls 13 [(0, .ref v0), (1, .int v1), (2, .ref v2), (3, .ref v3), (4, .ref v4), (5, .ref v5), (6, .ref v6), (7, .ref v7), (10, .int v10)] → cells + mc = MC → slots + ms = MS → W p l e { frames := 7, cells := MC, slots := MS, locals := 123 } s m ([.ref v0, .int v1, .ref v2, .ref v3, .ref v4, .ref v5, .ref v6, .ref v7]).toArray below meth c H locs cells slots (MQ below (va_Qi K (fun u' t => Wp G u' t.heap) (Ab G)) ([.ref v0, .int v1, .ref v2, .ref v3, .ref v4, .ref v5, .ref v6, .ref v7]).toArray s MC MS (Ab G)) (F0 m 517 ls [.int s0]) := by
  have hx := F.1.1
  have hb := F.1.2.1
  intro v10 s0 mc ms u H locs cells slots ls h hW hl hbc hbs
  unfold w_L_isSo_517 at h
  refine lv_istore (lv' := [(9, .int s0), (0, .ref v0), (1, .int v1), (2, .ref v2), (3, .ref v3), (4, .ref v4), (5, .ref v5), (6, .ref v6), (7, .ref v7), (10, .int v10)]) hx hb dL_isSo_517 hl (by decide) rfl (fun ls hl9 => ?_)
  replace hl := hl9
  clear hl9
  refine lv_iinc (v := (v10 + 1)) (lv' := [(10, .int (v10 + 1)), (9, .int s0), (0, .ref v0), (1, .int v1), (2, .ref v2), (3, .ref v3), (4, .ref v4), (5, .ref v5), (6, .ref v6), (7, .ref v7)]) hx hb dL_isSo_519 hl (k := 9) rfl rfl (by decide) rfl (fun ls hl9 => ?_)
  replace hl := hl9
  clear hl9
  refine lv_goto (tgt := 334) hx hb dL_isSo_522 (by decide) ?_
  exact hJ334 s0 (v10 + 1) mc ms u _ _ _ _ _ h hW (lv_sub hl [2, 3, 4, 5, 6, 7, 8, 9, 1, 0] rfl) hbc hbs
set_option maxHeartbeats 4000000 in
set_option maxRecDepth 100000 in
theorem t_L_isSo_516 {p : Program} {l : Launch} {e : Env} {s : State} {m : MethodId} {below : List Frame} {meth : Method} {c : Code} {G : Ctx} (v0 : Nat) (v1 : Int32) (v2 : Nat) (v3 : Nat) (v4 : Nat) (v5 : Nat) (v6 : Nat) (v7 : Nat) (MC MS : Nat) (F : Fx p l s m ([.ref v0, .int v1, .ref v2, .ref v3, .ref v4, .ref v5, .ref v6, .ref v7]).toArray meth c cL_isSo 13 RL G) (hr : meth.sig.returnType = (some .boolean)) (K : Int32 → Mem → Prop) (J334 : Int32 → Int32 → Nat → Nat → Mem → Prop) (hJ334 : ∀ (v9 : Int32) (v10 : Int32) (mc ms : Nat) (u : Mem) (H : Heap) (locs : List Loc) (cells slots : Nat) (ls : Array Slot), J334 v9 v10 mc ms u → Wd G u s H locs → lv_has ls 13 [(0, .ref v0), (1, .int v1), (2, .ref v2), (3, .ref v3), (4, .ref v4), (5, .ref v5), (6, .ref v6), (7, .ref v7), (9, .int v9), (10, .int v10)] → cells + mc = MC → slots + ms = MS → W p l e { frames := 7, cells := MC, slots := MS, locals := 123 } s m ([.ref v0, .int v1, .ref v2, .ref v3, .ref v4, .ref v5, .ref v6, .ref v7]).toArray below meth c H locs cells slots (MQ below (va_Qi K (fun u' t => Wp G u' t.heap) (Ab G)) ([.ref v0, .int v1, .ref v2, .ref v3, .ref v4, .ref v5, .ref v6, .ref v7]).toArray s MC MS (Ab G)) (F0 m 334 ls [])) : ∀ (v10 : Int32) (mc ms : Nat) (u : Mem) (H : Heap) (locs : List Loc) (cells slots : Nat) (ls : Array Slot), w_L_isSo_516 G v0 v1 v2 v3 v4 v5 v6 v7 K J334 v10 mc ms u → Wd G u s H locs → lv_has ls 13 [(0, .ref v0), (1, .int v1), (2, .ref v2), (3, .ref v3), (4, .ref v4), (5, .ref v5), (6, .ref v6), (7, .ref v7), (10, .int v10)] → cells + mc = MC → slots + ms = MS → W p l e { frames := 7, cells := MC, slots := MS, locals := 123 } s m ([.ref v0, .int v1, .ref v2, .ref v3, .ref v4, .ref v5, .ref v6, .ref v7]).toArray below meth c H locs cells slots (MQ below (va_Qi K (fun u' t => Wp G u' t.heap) (Ab G)) ([.ref v0, .int v1, .ref v2, .ref v3, .ref v4, .ref v5, .ref v6, .ref v7]).toArray s MC MS (Ab G)) (F0 m 516 ls []) := by
  have hx := F.1.1
  have hb := F.1.2.1
  intro v10 mc ms u H locs cells slots ls h hW hl hbc hbs
  unfold w_L_isSo_516 at h
  refine lv_iconst (v := (0 : Int32)) hx hb dL_isSo_516 (by decide) ?_
  exact t_L_isSo_517 v0 v1 v2 v3 v4 v5 v6 v7 MC MS F hr K J334 hJ334 v10 (0 : Int32) mc ms u _ _ _ _ _ h hW (lv_sub hl [0, 1, 2, 3, 4, 5, 6, 7, 8] rfl) hbc hbs
set_option maxHeartbeats 4000000 in
set_option maxRecDepth 100000 in
theorem t_L_isSo_427 {p : Program} {l : Launch} {e : Env} {s : State} {m : MethodId} {below : List Frame} {meth : Method} {c : Code} {G : Ctx} (v0 : Nat) (v1 : Int32) (v2 : Nat) (v3 : Nat) (v4 : Nat) (v5 : Nat) (v6 : Nat) (v7 : Nat) (MC MS : Nat) (F : Fx p l s m ([.ref v0, .int v1, .ref v2, .ref v3, .ref v4, .ref v5, .ref v6, .ref v7]).toArray meth c cL_isSo 13 RL G) (hr : meth.sig.returnType = (some .boolean)) (K : Int32 → Mem → Prop) (J334 : Int32 → Int32 → Nat → Nat → Mem → Prop) (hJ334 : ∀ (v9 : Int32) (v10 : Int32) (mc ms : Nat) (u : Mem) (H : Heap) (locs : List Loc) (cells slots : Nat) (ls : Array Slot), J334 v9 v10 mc ms u → Wd G u s H locs → lv_has ls 13 [(0, .ref v0), (1, .int v1), (2, .ref v2), (3, .ref v3), (4, .ref v4), (5, .ref v5), (6, .ref v6), (7, .ref v7), (9, .int v9), (10, .int v10)] → cells + mc = MC → slots + ms = MS → W p l e { frames := 7, cells := MC, slots := MS, locals := 123 } s m ([.ref v0, .int v1, .ref v2, .ref v3, .ref v4, .ref v5, .ref v6, .ref v7]).toArray below meth c H locs cells slots (MQ below (va_Qi K (fun u' t => Wp G u' t.heap) (Ab G)) ([.ref v0, .int v1, .ref v2, .ref v3, .ref v4, .ref v5, .ref v6, .ref v7]).toArray s MC MS (Ab G)) (F0 m 334 ls [])) : ∀ (v10 : Int32) (s0 : Int32) (mc ms : Nat) (u : Mem) (H : Heap) (locs : List Loc) (cells slots : Nat) (ls : Array Slot), w_L_isSo_427 G v0 v1 v2 v3 v4 v5 v6 v7 K J334 v10 s0 mc ms u → Wd G u s H locs → lv_has ls 13 [(0, .ref v0), (1, .int v1), (2, .ref v2), (3, .ref v3), (4, .ref v4), (5, .ref v5), (6, .ref v6), (7, .ref v7), (10, .int v10)] → cells + mc = MC → slots + ms = MS → W p l e { frames := 7, cells := MC, slots := MS, locals := 123 } s m ([.ref v0, .int v1, .ref v2, .ref v3, .ref v4, .ref v5, .ref v6, .ref v7]).toArray below meth c H locs cells slots (MQ below (va_Qi K (fun u' t => Wp G u' t.heap) (Ab G)) ([.ref v0, .int v1, .ref v2, .ref v3, .ref v4, .ref v5, .ref v6, .ref v7]).toArray s MC MS (Ab G)) (F0 m 427 ls [.int s0]) := by
  have hx := F.1.1
  have hb := F.1.2.1
  intro v10 s0 mc ms u H locs cells slots ls h hW hl hbc hbs
  unfold w_L_isSo_427 at h
  refine lv_istore (lv' := [(11, .int s0), (0, .ref v0), (1, .int v1), (2, .ref v2), (3, .ref v3), (4, .ref v4), (5, .ref v5), (6, .ref v6), (7, .ref v7), (10, .int v10)]) hx hb dL_isSo_427 hl (by decide) rfl (fun ls hl9 => ?_)
  replace hl := hl9
  clear hl9
  refine lv_iload hx hb dL_isSo_429 (lv_at hl 0 rfl) ?_
  refine lv_bipush (v := (8 : Int32)) hx hb dL_isSo_431 (by decide) ?_
  refine lv_irem hx hb dL_isSo_433 h.1 ?_
  replace h := h.2
  refine lv_iload hx hb dL_isSo_434 (lv_at hl 0 rfl) ?_
  refine lv_bipush (v := (8 : Int32)) hx hb dL_isSo_436 (by decide) ?_
  refine lv_idiv hx hb dL_isSo_438 h.1 ?_
  replace h := h.2
  refine lv_bipush (v := (8 : Int32)) hx hb dL_isSo_439 (by decide) ?_
  refine lv_irem hx hb dL_isSo_441 h.1 ?_
  replace h := h.2
  refine lv_iload hx hb dL_isSo_442 (lv_at hl 0 rfl) ?_
  refine lv_bipush (v := (64 : Int32)) hx hb dL_isSo_444 (by decide) ?_
  refine lv_idiv hx hb dL_isSo_446 h.1 ?_
  replace h := h.2
  refine lv_aload hx hb dL_isSo_447 (lv_at hl 6 rfl) ?_
  refine lv_aload hx hb dL_isSo_449 (lv_at hl 7 rfl) ?_
  refine lv_aload hx hb dL_isSo_451 (lv_at hl 8 rfl) ?_
  refine cI (runS (n := 6) (As := [.int (s0 - s0 / (8 : Int32) * (8 : Int32)), .int ((s0 / (8 : Int32)) - (s0 / (8 : Int32)) / (8 : Int32) * (8 : Int32)), .int (s0 / (64 : Int32)), .ref v5, .ref v6, .ref v7]) (rest := []) F hW (c_L_shows F.2.2.2 G (s0 - s0 / (8 : Int32) * (8 : Int32)) ((s0 / (8 : Int32)) - (s0 / (8 : Int32)) / (8 : Int32) * (8 : Int32)) (s0 / (64 : Int32)) v5 v6 v7 u _ h) q_341 q_342 q_68 q_343 (by decide +kernel) ⟨Nat.le_of_ble_eq_true rfl, Nat.le_of_ble_eq_true rfl⟩ dL_isSo_453 rfl hl.1 (Nat.le_of_ble_eq_true rfl) ⟨Nat.le.intro hbc, Nat.le.intro hbs⟩) hW (fun r170 u169 h9 H locs hW => ?_)
  replace h := h9
  clear h9
  refine lv_istore (lv' := [(12, .int r170), (11, .int s0), (0, .ref v0), (1, .int v1), (2, .ref v2), (3, .ref v3), (4, .ref v4), (5, .ref v5), (6, .ref v6), (7, .ref v7), (10, .int v10)]) hx hb dL_isSo_456 hl (by decide) rfl (fun ls hl9 => ?_)
  replace hl := hl9
  clear hl9
  refine lv_aload_n hx hb dL_isSo_458 rfl (lv_at hl 2 rfl) ?_
  refine lv_iload hx hb dL_isSo_459 (lv_at hl 1 rfl) ?_
  refine lv_bipush (v := (8 : Int32)) hx hb dL_isSo_461 (by decide) ?_
  refine lv_irem hx hb dL_isSo_463 h.1 ?_
  replace h := h.2
  refine lv_iload hx hb dL_isSo_464 (lv_at hl 1 rfl) ?_
  refine lv_bipush (v := (8 : Int32)) hx hb dL_isSo_466 (by decide) ?_
  refine lv_idiv hx hb dL_isSo_468 h.1 ?_
  replace h := h.2
  refine lv_bipush (v := (8 : Int32)) hx hb dL_isSo_469 (by decide) ?_
  refine lv_irem hx hb dL_isSo_471 h.1 ?_
  replace h := h.2
  refine lv_iload hx hb dL_isSo_472 (lv_at hl 1 rfl) ?_
  refine lv_bipush (v := (64 : Int32)) hx hb dL_isSo_474 (by decide) ?_
  refine lv_idiv hx hb dL_isSo_476 h.1 ?_
  replace h := h.2
  obtain ⟨c173, b174, h1, h2, h⟩ := h
  have hf1 := bdf hbc h1
  have hf2 := bdf hbs h2
  obtain ⟨hob, h⟩ := h
  refine cX (runX (n := 3) (As := [.int (s0 - s0 / (8 : Int32) * (8 : Int32)), .int ((s0 / (8 : Int32)) - (s0 / (8 : Int32)) / (8 : Int32) * (8 : Int32)), .int (s0 / (64 : Int32))]) (rest := []) F hW (c_X5_shows F.2.2.2 G v0 (s0 - s0 / (8 : Int32) * (8 : Int32)) ((s0 / (8 : Int32)) - (s0 / (8 : Int32)) / (8 : Int32) * (8 : Int32)) (s0 / (64 : Int32)) c173 b174 u169 _ _ h) hob (ci := 6) rfl q_403 q_404 q_405 q_2 q_406 rfl (by decide +kernel) ⟨Nat.le_of_ble_eq_true rfl, Nat.le_of_ble_eq_true rfl⟩ dL_isSo_477 rfl hl.1 (Nat.le_of_ble_eq_true rfl) ⟨hf1, hf2⟩) hW (fun r172 u171 h9 H locs hW => ?_) (fun E u171 h9 H locs hW => ?_)
  · replace h := h9
    clear h9
    replace hbc := bdg hbc h1
    replace hbs := bdg hbs h2
    clear h1 h2 hf1 hf2
    refine lv_iload hx hb dL_isSo_480 (lv_at hl 0 rfl) ?_
    refine lv_icmp_ne (tgt := 516) hx hb dL_isSo_482 (by decide) (fun hc175 => ?_) (fun hc175 => ?_)
    · have h := h.2 hc175
      exact t_L_isSo_516 v0 v1 v2 v3 v4 v5 v6 v7 MC MS F hr K J334 hJ334 v10 (mc - c173) (ms - b174) u171 _ _ _ _ _ h hW (lv_sub hl [2, 3, 4, 5, 6, 7, 8, 9, 10] rfl) hbc hbs
    · have h := h.1 hc175
      refine lv_aload_n hx hb dL_isSo_485 rfl (lv_at hl 2 rfl) ?_
      refine lv_iload hx hb dL_isSo_486 (lv_at hl 1 rfl) ?_
      refine lv_bipush (v := (8 : Int32)) hx hb dL_isSo_488 (by decide) ?_
      refine lv_irem hx hb dL_isSo_490 h.1 ?_
      replace h := h.2
      refine lv_iload hx hb dL_isSo_491 (lv_at hl 1 rfl) ?_
      refine lv_bipush (v := (8 : Int32)) hx hb dL_isSo_493 (by decide) ?_
      refine lv_idiv hx hb dL_isSo_495 h.1 ?_
      replace h := h.2
      refine lv_bipush (v := (8 : Int32)) hx hb dL_isSo_496 (by decide) ?_
      refine lv_irem hx hb dL_isSo_498 h.1 ?_
      replace h := h.2
      refine lv_iload hx hb dL_isSo_499 (lv_at hl 1 rfl) ?_
      refine lv_bipush (v := (64 : Int32)) hx hb dL_isSo_501 (by decide) ?_
      refine lv_idiv hx hb dL_isSo_503 h.1 ?_
      replace h := h.2
      obtain ⟨c178, b179, h1, h2, h⟩ := h
      have hf1 := bdf hbc h1
      have hf2 := bdf hbs h2
      obtain ⟨hob, h⟩ := h
      refine cX (runX (n := 3) (As := [.int (s0 - s0 / (8 : Int32) * (8 : Int32)), .int ((s0 / (8 : Int32)) - (s0 / (8 : Int32)) / (8 : Int32) * (8 : Int32)), .int (s0 / (64 : Int32))]) (rest := []) F hW (c_X5_showsByPapers F.2.2.2 G v0 (s0 - s0 / (8 : Int32) * (8 : Int32)) ((s0 / (8 : Int32)) - (s0 / (8 : Int32)) / (8 : Int32) * (8 : Int32)) (s0 / (64 : Int32)) c178 b179 u171 _ _ h) hob (ci := 6) rfl q_408 q_409 q_410 q_2 q_411 rfl (by decide +kernel) ⟨Nat.le_of_ble_eq_true rfl, Nat.le_of_ble_eq_true rfl⟩ dL_isSo_504 rfl hl.1 (Nat.le_of_ble_eq_true rfl) ⟨hf1, hf2⟩) hW (fun r177 u176 h9 H locs hW => ?_) (fun E u176 h9 H locs hW => ?_)
      · replace h := h9
        clear h9
        replace hbc := bdg hbc h1
        replace hbs := bdg hbs h2
        clear h1 h2 hf1 hf2
        refine lv_iload hx hb dL_isSo_507 (lv_at hl 0 rfl) ?_
        refine lv_icmp_ne (tgt := 516) hx hb dL_isSo_509 (by decide) (fun hc180 => ?_) (fun hc180 => ?_)
        · have h := h.2 hc180
          exact t_L_isSo_516 v0 v1 v2 v3 v4 v5 v6 v7 MC MS F hr K J334 hJ334 v10 ((mc - c173) - c178) ((ms - b174) - b179) u176 _ _ _ _ _ h hW (lv_sub hl [2, 3, 4, 5, 6, 7, 8, 9, 10] rfl) hbc hbs
        · have h := h.1 hc180
          refine lv_iconst (v := (1 : Int32)) hx hb dL_isSo_512 (by decide) ?_
          refine lv_goto (tgt := 517) hx hb dL_isSo_513 (by decide) ?_
          exact t_L_isSo_517 v0 v1 v2 v3 v4 v5 v6 v7 MC MS F hr K J334 hJ334 v10 (1 : Int32) ((mc - c173) - c178) ((ms - b174) - b179) u176 _ _ _ _ _ h hW (lv_sub hl [2, 3, 4, 5, 6, 7, 8, 9, 10] rfl) hbc hbs
      · exact h9.elim
  · exact h9.elim
set_option maxHeartbeats 4000000 in
set_option maxRecDepth 100000 in
theorem t_L_isSo_365 {p : Program} {l : Launch} {e : Env} {s : State} {m : MethodId} {below : List Frame} {meth : Method} {c : Code} {G : Ctx} (v0 : Nat) (v1 : Int32) (v2 : Nat) (v3 : Nat) (v4 : Nat) (v5 : Nat) (v6 : Nat) (v7 : Nat) (MC MS : Nat) (F : Fx p l s m ([.ref v0, .int v1, .ref v2, .ref v3, .ref v4, .ref v5, .ref v6, .ref v7]).toArray meth c cL_isSo 13 RL G) (hr : meth.sig.returnType = (some .boolean)) (K : Int32 → Mem → Prop) (J334 : Int32 → Int32 → Nat → Nat → Mem → Prop) (hJ334 : ∀ (v9 : Int32) (v10 : Int32) (mc ms : Nat) (u : Mem) (H : Heap) (locs : List Loc) (cells slots : Nat) (ls : Array Slot), J334 v9 v10 mc ms u → Wd G u s H locs → lv_has ls 13 [(0, .ref v0), (1, .int v1), (2, .ref v2), (3, .ref v3), (4, .ref v4), (5, .ref v5), (6, .ref v6), (7, .ref v7), (9, .int v9), (10, .int v10)] → cells + mc = MC → slots + ms = MS → W p l e { frames := 7, cells := MC, slots := MS, locals := 123 } s m ([.ref v0, .int v1, .ref v2, .ref v3, .ref v4, .ref v5, .ref v6, .ref v7]).toArray below meth c H locs cells slots (MQ below (va_Qi K (fun u' t => Wp G u' t.heap) (Ab G)) ([.ref v0, .int v1, .ref v2, .ref v3, .ref v4, .ref v5, .ref v6, .ref v7]).toArray s MC MS (Ab G)) (F0 m 334 ls [])) : ∀ (v10 : Int32) (mc ms : Nat) (u : Mem) (H : Heap) (locs : List Loc) (cells slots : Nat) (ls : Array Slot), w_L_isSo_365 G v0 v1 v2 v3 v4 v5 v6 v7 K J334 v10 mc ms u → Wd G u s H locs → lv_has ls 13 [(0, .ref v0), (1, .int v1), (2, .ref v2), (3, .ref v3), (4, .ref v4), (5, .ref v5), (6, .ref v6), (7, .ref v7), (10, .int v10)] → cells + mc = MC → slots + ms = MS → W p l e { frames := 7, cells := MC, slots := MS, locals := 123 } s m ([.ref v0, .int v1, .ref v2, .ref v3, .ref v4, .ref v5, .ref v6, .ref v7]).toArray below meth c H locs cells slots (MQ below (va_Qi K (fun u' t => Wp G u' t.heap) (Ab G)) ([.ref v0, .int v1, .ref v2, .ref v3, .ref v4, .ref v5, .ref v6, .ref v7]).toArray s MC MS (Ab G)) (F0 m 365 ls []) := by
  have hx := F.1.1
  have hb := F.1.2.1
  intro v10 mc ms u H locs cells slots ls h hW hl hbc hbs
  unfold w_L_isSo_365 at h
  refine lv_iload_n hx hb dL_isSo_365 rfl (lv_at hl 1 rfl) ?_
  refine lv_iload hx hb dL_isSo_366 (lv_at hl 8 rfl) ?_
  refine lv_ishr hx hb dL_isSo_368 ?_
  refine lv_bipush (v := (8 : Int32)) hx hb dL_isSo_369 (by decide) ?_
  refine cI (runS (n := 2) (As := [.int (v1 >>> (v10 &&& 31)), .int (8 : Int32)]) (rest := []) F hW (c_L_low F.2.2.2 G (v1 >>> (v10 &&& 31)) (8 : Int32) u _ h) q_72 q_73 q_68 q_74 (by decide +kernel) ⟨Nat.le_of_ble_eq_true rfl, Nat.le_of_ble_eq_true rfl⟩ dL_isSo_371 rfl hl.1 (Nat.le_of_ble_eq_true rfl) ⟨Nat.le.intro hbc, Nat.le.intro hbs⟩) hW (fun r182 u181 h9 H locs hW => ?_)
  replace h := h9
  clear h9
  refine lv_bipush (v := (8 : Int32)) hx hb dL_isSo_374 (by decide) ?_
  refine lv_iload_n hx hb dL_isSo_376 rfl (lv_at hl 1 rfl) ?_
  refine lv_iconst (v := (4 : Int32)) hx hb dL_isSo_377 (by decide) ?_
  refine lv_iload hx hb dL_isSo_378 (lv_at hl 8 rfl) ?_
  refine lv_iadd hx hb dL_isSo_380 ?_
  refine lv_ishr hx hb dL_isSo_381 ?_
  refine lv_aload hx hb dL_isSo_382 (lv_at hl 7 rfl) ?_
  refine lv_iconst (v := (2 : Int32)) hx hb dL_isSo_384 (by decide) ?_
  refine rIald F hW h.1 h.2.1 dL_isSo_385 ?_
  replace h := h.2.2
  refine cI (runS (n := 2) (As := [.int (v1 >>> (((4 : Int32) + v10) &&& 31)), .int (mA u181 v7 (2 : Int32).toNatClampNeg)]) (rest := [.int (8 : Int32), .int r182]) F hW (c_L_low F.2.2.2 G (v1 >>> (((4 : Int32) + v10) &&& 31)) (mA u181 v7 (2 : Int32).toNatClampNeg) u181 _ h) q_72 q_73 q_68 q_74 (by decide +kernel) ⟨Nat.le_of_ble_eq_true rfl, Nat.le_of_ble_eq_true rfl⟩ dL_isSo_386 rfl hl.1 (Nat.le_of_ble_eq_true rfl) ⟨Nat.le.intro hbc, Nat.le.intro hbs⟩) hW (fun r184 u183 h9 H locs hW => ?_)
  replace h := h9
  clear h9
  refine lv_imul hx hb dL_isSo_389 ?_
  refine lv_iadd hx hb dL_isSo_390 ?_
  refine lv_bipush (v := (64 : Int32)) hx hb dL_isSo_391 (by decide) ?_
  refine lv_iload_n hx hb dL_isSo_393 rfl (lv_at hl 1 rfl) ?_
  refine lv_bipush (v := (7 : Int32)) hx hb dL_isSo_394 (by decide) ?_
  refine lv_ishr hx hb dL_isSo_396 ?_
  refine lv_aload hx hb dL_isSo_397 (lv_at hl 7 rfl) ?_
  refine lv_iconst (v := (0 : Int32)) hx hb dL_isSo_399 (by decide) ?_
  refine rIald F hW h.1 h.2.1 dL_isSo_400 ?_
  replace h := h.2.2
  refine lv_iconst (v := (2 : Int32)) hx hb dL_isSo_401 (by decide) ?_
  refine lv_iadd hx hb dL_isSo_402 ?_
  refine cI (runS (n := 2) (As := [.int (v1 >>> ((7 : Int32) &&& 31)), .int ((mA u183 v7 (0 : Int32).toNatClampNeg) + (2 : Int32))]) (rest := [.int (64 : Int32), .int (r182 + ((8 : Int32) * r184))]) F hW (c_L_low F.2.2.2 G (v1 >>> ((7 : Int32) &&& 31)) ((mA u183 v7 (0 : Int32).toNatClampNeg) + (2 : Int32)) u183 _ h) q_72 q_73 q_68 q_74 (by decide +kernel) ⟨Nat.le_of_ble_eq_true rfl, Nat.le_of_ble_eq_true rfl⟩ dL_isSo_403 rfl hl.1 (Nat.le_of_ble_eq_true rfl) ⟨Nat.le.intro hbc, Nat.le.intro hbs⟩) hW (fun r186 u185 h9 H locs hW => ?_)
  replace h := h9
  clear h9
  refine lv_imul hx hb dL_isSo_406 ?_
  refine lv_iadd hx hb dL_isSo_407 ?_
  refine lv_goto (tgt := 427) hx hb dL_isSo_408 (by decide) ?_
  exact t_L_isSo_427 v0 v1 v2 v3 v4 v5 v6 v7 MC MS F hr K J334 hJ334 v10 ((r182 + ((8 : Int32) * r184)) + ((64 : Int32) * r186)) mc ms u185 _ _ _ _ _ h hW (lv_sub hl [0, 1, 2, 3, 4, 5, 6, 7, 8] rfl) hbc hbs
set_option maxHeartbeats 4000000 in
set_option maxRecDepth 100000 in
theorem t_L_isSo_334 {p : Program} {l : Launch} {e : Env} {s : State} {m : MethodId} {below : List Frame} {meth : Method} {c : Code} {G : Ctx} (v0 : Nat) (v1 : Int32) (v2 : Nat) (v3 : Nat) (v4 : Nat) (v5 : Nat) (v6 : Nat) (v7 : Nat) (MC MS : Nat) (F : Fx p l s m ([.ref v0, .int v1, .ref v2, .ref v3, .ref v4, .ref v5, .ref v6, .ref v7]).toArray meth c cL_isSo 13 RL G) (hr : meth.sig.returnType = (some .boolean)) (K : Int32 → Mem → Prop) : ∀ (n : Nat), ∀ (v9 : Int32) (v10 : Int32) (mc ms : Nat) (u : Mem) (H : Heap) (locs : List Loc) (cells slots : Nat) (ls : Array Slot), w_L_isSo_334 G v0 v1 v2 v3 v4 v5 v6 v7 K n v9 v10 mc ms u → Wd G u s H locs → lv_has ls 13 [(0, .ref v0), (1, .int v1), (2, .ref v2), (3, .ref v3), (4, .ref v4), (5, .ref v5), (6, .ref v6), (7, .ref v7), (9, .int v9), (10, .int v10)] → cells + mc = MC → slots + ms = MS → W p l e { frames := 7, cells := MC, slots := MS, locals := 123 } s m ([.ref v0, .int v1, .ref v2, .ref v3, .ref v4, .ref v5, .ref v6, .ref v7]).toArray below meth c H locs cells slots (MQ below (va_Qi K (fun u' t => Wp G u' t.heap) (Ab G)) ([.ref v0, .int v1, .ref v2, .ref v3, .ref v4, .ref v5, .ref v6, .ref v7]).toArray s MC MS (Ab G)) (F0 m 334 ls []) := by
  have hx := F.1.1
  have hb := F.1.2.1
  intro n
  induction n with
  | zero =>
    intro v9 v10 mc ms u H locs cells slots ls h hW hl hbc hbs
    exact h.elim
  | succ n hJ334 =>
    intro v9 v10 mc ms u H locs cells slots ls h hW hl hbc hbs
    have h : b_L_isSo_334 G v0 v1 v2 v3 v4 v5 v6 v7 K (w_L_isSo_334 G v0 v1 v2 v3 v4 v5 v6 v7 K n) v9 v10 mc ms u := h
    revert h
    generalize w_L_isSo_334 G v0 v1 v2 v3 v4 v5 v6 v7 K n = J334 at hJ334 ⊢
    intro h
    unfold b_L_isSo_334 at h
    refine lv_iload hx hb dL_isSo_334 (lv_at hl 9 rfl) ?_
    refine lv_iconst (v := (4 : Int32)) hx hb dL_isSo_336 (by decide) ?_
    refine lv_icmp_ge (tgt := 525) hx hb dL_isSo_337 (by decide) (fun hc187 => ?_) (fun hc187 => ?_)
    · have h := h.1 hc187
      refine lv_iload hx hb dL_isSo_525 (lv_at hl 8 rfl) ?_
      refine W.widen (k := MC) (n := MS) (Nat.le.intro hbc) (Nat.le.intro hbs) ?_
      exact retZ F hr hW h.1 h.2 dL_isSo_527
    · have h := h.2 hc187
      refine lv_iload hx hb dL_isSo_340 (lv_at hl 8 rfl) ?_
      refine lv_if_eq (tgt := 525) hx hb dL_isSo_342 (by decide) (fun hc188 => ?_) (fun hc188 => ?_)
      · have h := h.1 hc188
        refine lv_iload hx hb dL_isSo_525 (lv_at hl 8 rfl) ?_
        refine W.widen (k := MC) (n := MS) (Nat.le.intro hbc) (Nat.le.intro hbs) ?_
        exact retZ F hr hW h.1 h.2 dL_isSo_527
      · have h := h.2 hc188
        refine lv_aload hx hb dL_isSo_345 (lv_at hl 7 rfl) ?_
        refine lv_iconst (v := (2 : Int32)) hx hb dL_isSo_347 (by decide) ?_
        refine rIald F hW h.1 h.2.1 dL_isSo_348 ?_
        replace h := h.2.2
        refine lv_if_le (tgt := 525) hx hb dL_isSo_349 (by decide) (fun hc189 => ?_) (fun hc189 => ?_)
        · have h := h.1 hc189
          refine lv_iload hx hb dL_isSo_525 (lv_at hl 8 rfl) ?_
          refine W.widen (k := MC) (n := MS) (Nat.le.intro hbc) (Nat.le.intro hbs) ?_
          exact retZ F hr hW h.1 h.2 dL_isSo_527
        · have h := h.2 hc189
          refine lv_aload hx hb dL_isSo_352 (lv_at hl 7 rfl) ?_
          refine lv_iconst (v := (3 : Int32)) hx hb dL_isSo_354 (by decide) ?_
          refine rIald F hW h.1 h.2.1 dL_isSo_355 ?_
          replace h := h.2.2
          refine lv_if_eq (tgt := 365) hx hb dL_isSo_356 (by decide) (fun hc190 => ?_) (fun hc190 => ?_)
          · have h := h.1 hc190
            exact t_L_isSo_365 v0 v1 v2 v3 v4 v5 v6 v7 MC MS F hr K J334 hJ334 v10 mc ms u _ _ _ _ _ h hW (lv_sub hl [0, 1, 2, 3, 4, 5, 6, 7, 9] rfl) hbc hbs
          · have h := h.2 hc190
            refine lv_iload hx hb dL_isSo_359 (lv_at hl 9 rfl) ?_
            refine lv_iconst (v := (2 : Int32)) hx hb dL_isSo_361 (by decide) ?_
            refine lv_icmp_le (tgt := 411) hx hb dL_isSo_362 (by decide) (fun hc191 => ?_) (fun hc191 => ?_)
            · have h := h.1 hc191
              refine lv_aload hx hb dL_isSo_411 (lv_at hl 5 rfl) ?_
              refine lv_iload_n hx hb dL_isSo_413 rfl (lv_at hl 1 rfl) ?_
              refine lv_iconst (v := (3 : Int32)) hx hb dL_isSo_414 (by decide) ?_
              refine lv_iload hx hb dL_isSo_415 (lv_at hl 9 rfl) ?_
              refine lv_imul hx hb dL_isSo_417 ?_
              refine lv_ishr hx hb dL_isSo_418 ?_
              refine lv_aload hx hb dL_isSo_419 (lv_at hl 7 rfl) ?_
              refine lv_iconst (v := (3 : Int32)) hx hb dL_isSo_421 (by decide) ?_
              refine rIald F hW h.1 h.2.1 dL_isSo_422 ?_
              replace h := h.2.2
              refine cI (runS (n := 2) (As := [.int (v1 >>> (((3 : Int32) * v10) &&& 31)), .int (mA u v7 (3 : Int32).toNatClampNeg)]) (rest := [.ref v5]) F hW (c_L_low F.2.2.2 G (v1 >>> (((3 : Int32) * v10) &&& 31)) (mA u v7 (3 : Int32).toNatClampNeg) u _ h) q_72 q_73 q_68 q_74 (by decide +kernel) ⟨Nat.le_of_ble_eq_true rfl, Nat.le_of_ble_eq_true rfl⟩ dL_isSo_423 rfl hl.1 (Nat.le_of_ble_eq_true rfl) ⟨Nat.le.intro hbc, Nat.le.intro hbs⟩) hW (fun r193 u192 h9 H locs hW => ?_)
              replace h := h9
              clear h9
              refine rIald F hW h.1 h.2.1 dL_isSo_426 ?_
              replace h := h.2.2
              exact t_L_isSo_427 v0 v1 v2 v3 v4 v5 v6 v7 MC MS F hr K J334 hJ334 v10 (mA u192 v5 r193.toNatClampNeg) mc ms u192 _ _ _ _ _ h hW (lv_sub hl [0, 1, 2, 3, 4, 5, 6, 7, 9] rfl) hbc hbs
            · have h := h.2 hc191
              exact t_L_isSo_365 v0 v1 v2 v3 v4 v5 v6 v7 MC MS F hr K J334 hJ334 v10 mc ms u _ _ _ _ _ h hW (lv_sub hl [0, 1, 2, 3, 4, 5, 6, 7, 9] rfl) hbc hbs
set_option maxHeartbeats 4000000 in
set_option maxRecDepth 100000 in
theorem t_L_isSo_329 {p : Program} {l : Launch} {e : Env} {s : State} {m : MethodId} {below : List Frame} {meth : Method} {c : Code} {G : Ctx} (v0 : Nat) (v1 : Int32) (v2 : Nat) (v3 : Nat) (v4 : Nat) (v5 : Nat) (v6 : Nat) (v7 : Nat) (MC MS : Nat) (F : Fx p l s m ([.ref v0, .int v1, .ref v2, .ref v3, .ref v4, .ref v5, .ref v6, .ref v7]).toArray meth c cL_isSo 13 RL G) (hr : meth.sig.returnType = (some .boolean)) (K : Int32 → Mem → Prop) : ∀ (s0 : Int32) (mc ms : Nat) (u : Mem) (H : Heap) (locs : List Loc) (cells slots : Nat) (ls : Array Slot), w_L_isSo_329 G v0 v1 v2 v3 v4 v5 v6 v7 K s0 mc ms u → Wd G u s H locs → lv_has ls 13 [(0, .ref v0), (1, .int v1), (2, .ref v2), (3, .ref v3), (4, .ref v4), (5, .ref v5), (6, .ref v6), (7, .ref v7)] → cells + mc = MC → slots + ms = MS → W p l e { frames := 7, cells := MC, slots := MS, locals := 123 } s m ([.ref v0, .int v1, .ref v2, .ref v3, .ref v4, .ref v5, .ref v6, .ref v7]).toArray below meth c H locs cells slots (MQ below (va_Qi K (fun u' t => Wp G u' t.heap) (Ab G)) ([.ref v0, .int v1, .ref v2, .ref v3, .ref v4, .ref v5, .ref v6, .ref v7]).toArray s MC MS (Ab G)) (F0 m 329 ls [.int s0]) := by
  have hx := F.1.1
  have hb := F.1.2.1
  intro s0 mc ms u H locs cells slots ls h hW hl hbc hbs
  unfold w_L_isSo_329 at h
  refine lv_istore (lv' := [(9, .int s0), (0, .ref v0), (1, .int v1), (2, .ref v2), (3, .ref v3), (4, .ref v4), (5, .ref v5), (6, .ref v6), (7, .ref v7)]) hx hb dL_isSo_329 hl (by decide) rfl (fun ls hl9 => ?_)
  replace hl := hl9
  clear hl9
  refine lv_iconst (v := (0 : Int32)) hx hb dL_isSo_331 (by decide) ?_
  refine lv_istore (lv' := [(10, .int (0 : Int32)), (9, .int s0), (0, .ref v0), (1, .int v1), (2, .ref v2), (3, .ref v3), (4, .ref v4), (5, .ref v5), (6, .ref v6), (7, .ref v7)]) hx hb dL_isSo_332 hl (by decide) rfl (fun ls hl9 => ?_)
  replace hl := hl9
  clear hl9
  obtain ⟨n, h⟩ := h
  exact t_L_isSo_334 v0 v1 v2 v3 v4 v5 v6 v7 MC MS F hr K n s0 (0 : Int32) mc ms u _ _ _ _ _ h hW (lv_sub hl [2, 3, 4, 5, 6, 7, 8, 9, 1, 0] rfl) hbc hbs
set_option maxHeartbeats 4000000 in
set_option maxRecDepth 100000 in
theorem t_L_isSo_328 {p : Program} {l : Launch} {e : Env} {s : State} {m : MethodId} {below : List Frame} {meth : Method} {c : Code} {G : Ctx} (v0 : Nat) (v1 : Int32) (v2 : Nat) (v3 : Nat) (v4 : Nat) (v5 : Nat) (v6 : Nat) (v7 : Nat) (MC MS : Nat) (F : Fx p l s m ([.ref v0, .int v1, .ref v2, .ref v3, .ref v4, .ref v5, .ref v6, .ref v7]).toArray meth c cL_isSo 13 RL G) (hr : meth.sig.returnType = (some .boolean)) (K : Int32 → Mem → Prop) : ∀ (mc ms : Nat) (u : Mem) (H : Heap) (locs : List Loc) (cells slots : Nat) (ls : Array Slot), w_L_isSo_328 G v0 v1 v2 v3 v4 v5 v6 v7 K mc ms u → Wd G u s H locs → lv_has ls 13 [(0, .ref v0), (1, .int v1), (2, .ref v2), (3, .ref v3), (4, .ref v4), (5, .ref v5), (6, .ref v6), (7, .ref v7)] → cells + mc = MC → slots + ms = MS → W p l e { frames := 7, cells := MC, slots := MS, locals := 123 } s m ([.ref v0, .int v1, .ref v2, .ref v3, .ref v4, .ref v5, .ref v6, .ref v7]).toArray below meth c H locs cells slots (MQ below (va_Qi K (fun u' t => Wp G u' t.heap) (Ab G)) ([.ref v0, .int v1, .ref v2, .ref v3, .ref v4, .ref v5, .ref v6, .ref v7]).toArray s MC MS (Ab G)) (F0 m 328 ls []) := by
  have hx := F.1.1
  have hb := F.1.2.1
  intro mc ms u H locs cells slots ls h hW hl hbc hbs
  unfold w_L_isSo_328 at h
  refine lv_iconst (v := (0 : Int32)) hx hb dL_isSo_328 (by decide) ?_
  exact t_L_isSo_329 v0 v1 v2 v3 v4 v5 v6 v7 MC MS F hr K (0 : Int32) mc ms u _ _ _ _ _ h hW (lv_sub hl [0, 1, 2, 3, 4, 5, 6, 7] rfl) hbc hbs
set_option maxHeartbeats 4000000 in
set_option maxRecDepth 100000 in
theorem t_L_isSo_301 {p : Program} {l : Launch} {e : Env} {s : State} {m : MethodId} {below : List Frame} {meth : Method} {c : Code} {G : Ctx} (v0 : Nat) (v1 : Int32) (v2 : Nat) (v3 : Nat) (v4 : Nat) (v5 : Nat) (v6 : Nat) (v7 : Nat) (MC MS : Nat) (F : Fx p l s m ([.ref v0, .int v1, .ref v2, .ref v3, .ref v4, .ref v5, .ref v6, .ref v7]).toArray meth c cL_isSo 13 RL G) (hr : meth.sig.returnType = (some .boolean)) (K : Int32 → Mem → Prop) (J273 : Int32 → Int32 → Int32 → Nat → Nat → Mem → Prop) (hJ273 : ∀ (v8 : Int32) (v9 : Int32) (v10 : Int32) (mc ms : Nat) (u : Mem) (H : Heap) (locs : List Loc) (cells slots : Nat) (ls : Array Slot), J273 v8 v9 v10 mc ms u → Wd G u s H locs → lv_has ls 13 [(0, .ref v0), (1, .int v1), (2, .ref v2), (3, .ref v3), (4, .ref v4), (5, .ref v5), (6, .ref v6), (7, .ref v7), (8, .int v8), (9, .int v9), (10, .int v10)] → cells + mc = MC → slots + ms = MS → W p l e { frames := 7, cells := MC, slots := MS, locals := 123 } s m ([.ref v0, .int v1, .ref v2, .ref v3, .ref v4, .ref v5, .ref v6, .ref v7]).toArray below meth c H locs cells slots (MQ below (va_Qi K (fun u' t => Wp G u' t.heap) (Ab G)) ([.ref v0, .int v1, .ref v2, .ref v3, .ref v4, .ref v5, .ref v6, .ref v7]).toArray s MC MS (Ab G)) (F0 m 273 ls [])) : ∀ (v9 : Int32) (v10 : Int32) (s0 : Int32) (s1 : Int32) (mc ms : Nat) (u : Mem) (H : Heap) (locs : List Loc) (cells slots : Nat) (ls : Array Slot), w_L_isSo_301 G v0 v1 v2 v3 v4 v5 v6 v7 K J273 v9 v10 s0 s1 mc ms u → Wd G u s H locs → lv_has ls 13 [(0, .ref v0), (1, .int v1), (2, .ref v2), (3, .ref v3), (4, .ref v4), (5, .ref v5), (6, .ref v6), (7, .ref v7), (9, .int v9), (10, .int v10)] → cells + mc = MC → slots + ms = MS → W p l e { frames := 7, cells := MC, slots := MS, locals := 123 } s m ([.ref v0, .int v1, .ref v2, .ref v3, .ref v4, .ref v5, .ref v6, .ref v7]).toArray below meth c H locs cells slots (MQ below (va_Qi K (fun u' t => Wp G u' t.heap) (Ab G)) ([.ref v0, .int v1, .ref v2, .ref v3, .ref v4, .ref v5, .ref v6, .ref v7]).toArray s MC MS (Ab G)) (F0 m 301 ls [.int s0, .int s1]) := by
  have hx := F.1.1
  have hb := F.1.2.1
  intro v9 v10 s0 s1 mc ms u H locs cells slots ls h hW hl hbc hbs
  unfold w_L_isSo_301 at h
  refine lv_iadd hx hb dL_isSo_301 ?_
  refine lv_istore (lv' := [(8, .int (s1 + s0)), (0, .ref v0), (1, .int v1), (2, .ref v2), (3, .ref v3), (4, .ref v4), (5, .ref v5), (6, .ref v6), (7, .ref v7), (9, .int v9), (10, .int v10)]) hx hb dL_isSo_302 hl (by decide) rfl (fun ls hl9 => ?_)
  replace hl := hl9
  clear hl9
  refine lv_iinc (v := (v10 + 1)) (lv' := [(10, .int (v10 + 1)), (8, .int (s1 + s0)), (0, .ref v0), (1, .int v1), (2, .ref v2), (3, .ref v3), (4, .ref v4), (5, .ref v5), (6, .ref v6), (7, .ref v7), (9, .int v9)]) hx hb dL_isSo_304 hl (k := 10) rfl rfl (by decide) rfl (fun ls hl9 => ?_)
  replace hl := hl9
  clear hl9
  refine lv_goto (tgt := 273) hx hb dL_isSo_307 (by decide) ?_
  exact hJ273 (s1 + s0) v9 (v10 + 1) mc ms u _ _ _ _ _ h hW (lv_sub hl [2, 3, 4, 5, 6, 7, 8, 9, 1, 10, 0] rfl) hbc hbs
set_option maxHeartbeats 4000000 in
set_option maxRecDepth 100000 in
theorem t_L_isSo_273 {p : Program} {l : Launch} {e : Env} {s : State} {m : MethodId} {below : List Frame} {meth : Method} {c : Code} {G : Ctx} (v0 : Nat) (v1 : Int32) (v2 : Nat) (v3 : Nat) (v4 : Nat) (v5 : Nat) (v6 : Nat) (v7 : Nat) (MC MS : Nat) (F : Fx p l s m ([.ref v0, .int v1, .ref v2, .ref v3, .ref v4, .ref v5, .ref v6, .ref v7]).toArray meth c cL_isSo 13 RL G) (hr : meth.sig.returnType = (some .boolean)) (K : Int32 → Mem → Prop) : ∀ (n : Nat), ∀ (v8 : Int32) (v9 : Int32) (v10 : Int32) (mc ms : Nat) (u : Mem) (H : Heap) (locs : List Loc) (cells slots : Nat) (ls : Array Slot), w_L_isSo_273 G v0 v1 v2 v3 v4 v5 v6 v7 K n v8 v9 v10 mc ms u → Wd G u s H locs → lv_has ls 13 [(0, .ref v0), (1, .int v1), (2, .ref v2), (3, .ref v3), (4, .ref v4), (5, .ref v5), (6, .ref v6), (7, .ref v7), (8, .int v8), (9, .int v9), (10, .int v10)] → cells + mc = MC → slots + ms = MS → W p l e { frames := 7, cells := MC, slots := MS, locals := 123 } s m ([.ref v0, .int v1, .ref v2, .ref v3, .ref v4, .ref v5, .ref v6, .ref v7]).toArray below meth c H locs cells slots (MQ below (va_Qi K (fun u' t => Wp G u' t.heap) (Ab G)) ([.ref v0, .int v1, .ref v2, .ref v3, .ref v4, .ref v5, .ref v6, .ref v7]).toArray s MC MS (Ab G)) (F0 m 273 ls []) := by
  have hx := F.1.1
  have hb := F.1.2.1
  intro n
  induction n with
  | zero =>
    intro v8 v9 v10 mc ms u H locs cells slots ls h hW hl hbc hbs
    exact h.elim
  | succ n hJ273 =>
    intro v8 v9 v10 mc ms u H locs cells slots ls h hW hl hbc hbs
    have h : b_L_isSo_273 G v0 v1 v2 v3 v4 v5 v6 v7 K (w_L_isSo_273 G v0 v1 v2 v3 v4 v5 v6 v7 K n) v8 v9 v10 mc ms u := h
    revert h
    generalize w_L_isSo_273 G v0 v1 v2 v3 v4 v5 v6 v7 K n = J273 at hJ273 ⊢
    intro h
    unfold b_L_isSo_273 at h
    refine lv_iload hx hb dL_isSo_273 (lv_at hl 10 rfl) ?_
    refine lv_aload hx hb dL_isSo_275 (lv_at hl 7 rfl) ?_
    refine lv_iconst (v := (3 : Int32)) hx hb dL_isSo_277 (by decide) ?_
    refine rIald F hW h.1 h.2.1 dL_isSo_278 ?_
    replace h := h.2.2
    refine lv_icmp_ge (tgt := 310) hx hb dL_isSo_279 (by decide) (fun hc194 => ?_) (fun hc194 => ?_)
    · have h := h.1 hc194
      refine lv_iload hx hb dL_isSo_310 (lv_at hl 9 rfl) ?_
      refine lv_if_eq (tgt := 328) hx hb dL_isSo_312 (by decide) (fun hc195 => ?_) (fun hc195 => ?_)
      · have h := h.1 hc195
        exact t_L_isSo_328 v0 v1 v2 v3 v4 v5 v6 v7 MC MS F hr K mc ms u _ _ _ _ _ h hW (lv_sub hl [0, 1, 2, 3, 4, 5, 6, 7] rfl) hbc hbs
      · have h := h.2 hc195
        refine lv_aload_n hx hb dL_isSo_315 rfl (lv_at hl 0 rfl) ?_
        obtain ⟨hob, h⟩ := h
        refine cI (runV (n := 0) (As := []) (rest := []) F hW (c_X5_pictures F.2.2.2 G v0 u _ h) hob (ci := 6) rfl q_395 q_396 q_397 q_2 q_398 rfl (by decide +kernel) ⟨Nat.le_of_ble_eq_true rfl, Nat.le_of_ble_eq_true rfl⟩ dL_isSo_316 rfl hl.1 (Nat.le_of_ble_eq_true rfl) ⟨Nat.le.intro hbc, Nat.le.intro hbs⟩) hW (fun r197 u196 h9 H locs hW => ?_)
        replace h := h9
        clear h9
        refine lv_iload hx hb dL_isSo_319 (lv_at hl 8 rfl) ?_
        refine lv_icmp_ne (tgt := 328) hx hb dL_isSo_321 (by decide) (fun hc198 => ?_) (fun hc198 => ?_)
        · have h := h.2 hc198
          exact t_L_isSo_328 v0 v1 v2 v3 v4 v5 v6 v7 MC MS F hr K mc ms u196 _ _ _ _ _ h hW (lv_sub hl [0, 1, 2, 3, 4, 5, 6, 7] rfl) hbc hbs
        · have h := h.1 hc198
          refine lv_iconst (v := (1 : Int32)) hx hb dL_isSo_324 (by decide) ?_
          refine lv_goto (tgt := 329) hx hb dL_isSo_325 (by decide) ?_
          exact t_L_isSo_329 v0 v1 v2 v3 v4 v5 v6 v7 MC MS F hr K (1 : Int32) mc ms u196 _ _ _ _ _ h hW (lv_sub hl [0, 1, 2, 3, 4, 5, 6, 7] rfl) hbc hbs
    · have h := h.2 hc194
      refine lv_iload hx hb dL_isSo_282 (lv_at hl 8 rfl) ?_
      refine lv_aload hx hb dL_isSo_284 (lv_at hl 6 rfl) ?_
      refine lv_iload hx hb dL_isSo_286 (lv_at hl 10 rfl) ?_
      refine rIald F hW h.1 h.2.1 dL_isSo_288 ?_
      replace h := h.2.2
      refine lv_aload hx hb dL_isSo_289 (lv_at hl 7 rfl) ?_
      refine lv_iconst (v := (0 : Int32)) hx hb dL_isSo_291 (by decide) ?_
      refine rIald F hW h.1 h.2.1 dL_isSo_292 ?_
      replace h := h.2.2
      refine lv_icmp_le (tgt := 300) hx hb dL_isSo_293 (by decide) (fun hc199 => ?_) (fun hc199 => ?_)
      · have h := h.1 hc199
        refine lv_iconst (v := (0 : Int32)) hx hb dL_isSo_300 (by decide) ?_
        exact t_L_isSo_301 v0 v1 v2 v3 v4 v5 v6 v7 MC MS F hr K J273 hJ273 v9 v10 (0 : Int32) v8 mc ms u _ _ _ _ _ h hW (lv_sub hl [0, 1, 2, 3, 4, 5, 6, 7, 9, 10] rfl) hbc hbs
      · have h := h.2 hc199
        refine lv_iconst (v := (1 : Int32)) hx hb dL_isSo_296 (by decide) ?_
        refine lv_goto (tgt := 301) hx hb dL_isSo_297 (by decide) ?_
        exact t_L_isSo_301 v0 v1 v2 v3 v4 v5 v6 v7 MC MS F hr K J273 hJ273 v9 v10 (1 : Int32) v8 mc ms u _ _ _ _ _ h hW (lv_sub hl [0, 1, 2, 3, 4, 5, 6, 7, 9, 10] rfl) hbc hbs
set_option maxHeartbeats 4000000 in
set_option maxRecDepth 100000 in
theorem t_L_isSo_270 {p : Program} {l : Launch} {e : Env} {s : State} {m : MethodId} {below : List Frame} {meth : Method} {c : Code} {G : Ctx} (v0 : Nat) (v1 : Int32) (v2 : Nat) (v3 : Nat) (v4 : Nat) (v5 : Nat) (v6 : Nat) (v7 : Nat) (MC MS : Nat) (F : Fx p l s m ([.ref v0, .int v1, .ref v2, .ref v3, .ref v4, .ref v5, .ref v6, .ref v7]).toArray meth c cL_isSo 13 RL G) (hr : meth.sig.returnType = (some .boolean)) (K : Int32 → Mem → Prop) : ∀ (v8 : Int32) (v9 : Int32) (mc ms : Nat) (u : Mem) (H : Heap) (locs : List Loc) (cells slots : Nat) (ls : Array Slot), w_L_isSo_270 G v0 v1 v2 v3 v4 v5 v6 v7 K v8 v9 mc ms u → Wd G u s H locs → lv_has ls 13 [(0, .ref v0), (1, .int v1), (2, .ref v2), (3, .ref v3), (4, .ref v4), (5, .ref v5), (6, .ref v6), (7, .ref v7), (8, .int v8), (9, .int v9)] → cells + mc = MC → slots + ms = MS → W p l e { frames := 7, cells := MC, slots := MS, locals := 123 } s m ([.ref v0, .int v1, .ref v2, .ref v3, .ref v4, .ref v5, .ref v6, .ref v7]).toArray below meth c H locs cells slots (MQ below (va_Qi K (fun u' t => Wp G u' t.heap) (Ab G)) ([.ref v0, .int v1, .ref v2, .ref v3, .ref v4, .ref v5, .ref v6, .ref v7]).toArray s MC MS (Ab G)) (F0 m 270 ls []) := by
  have hx := F.1.1
  have hb := F.1.2.1
  intro v8 v9 mc ms u H locs cells slots ls h hW hl hbc hbs
  unfold w_L_isSo_270 at h
  refine lv_iconst (v := (0 : Int32)) hx hb dL_isSo_270 (by decide) ?_
  refine lv_istore (lv' := [(10, .int (0 : Int32)), (0, .ref v0), (1, .int v1), (2, .ref v2), (3, .ref v3), (4, .ref v4), (5, .ref v5), (6, .ref v6), (7, .ref v7), (8, .int v8), (9, .int v9)]) hx hb dL_isSo_271 hl (by decide) rfl (fun ls hl9 => ?_)
  replace hl := hl9
  clear hl9
  obtain ⟨n, h⟩ := h
  exact t_L_isSo_273 v0 v1 v2 v3 v4 v5 v6 v7 MC MS F hr K n v8 v9 (0 : Int32) mc ms u _ _ _ _ _ h hW (lv_sub hl [1, 2, 3, 4, 5, 6, 7, 8, 9, 10, 0] rfl) hbc hbs
set_option maxHeartbeats 4000000 in
set_option maxRecDepth 100000 in
theorem t_L_isSo_262 {p : Program} {l : Launch} {e : Env} {s : State} {m : MethodId} {below : List Frame} {meth : Method} {c : Code} {G : Ctx} (v0 : Nat) (v1 : Int32) (v2 : Nat) (v3 : Nat) (v4 : Nat) (v5 : Nat) (v6 : Nat) (v7 : Nat) (MC MS : Nat) (F : Fx p l s m ([.ref v0, .int v1, .ref v2, .ref v3, .ref v4, .ref v5, .ref v6, .ref v7]).toArray meth c cL_isSo 13 RL G) (hr : meth.sig.returnType = (some .boolean)) (K : Int32 → Mem → Prop) (J186 : Int32 → Int32 → Int32 → Nat → Nat → Mem → Prop) (hJ186 : ∀ (v8 : Int32) (v9 : Int32) (v10 : Int32) (mc ms : Nat) (u : Mem) (H : Heap) (locs : List Loc) (cells slots : Nat) (ls : Array Slot), J186 v8 v9 v10 mc ms u → Wd G u s H locs → lv_has ls 13 [(0, .ref v0), (1, .int v1), (2, .ref v2), (3, .ref v3), (4, .ref v4), (5, .ref v5), (6, .ref v6), (7, .ref v7), (8, .int v8), (9, .int v9), (10, .int v10)] → cells + mc = MC → slots + ms = MS → W p l e { frames := 7, cells := MC, slots := MS, locals := 123 } s m ([.ref v0, .int v1, .ref v2, .ref v3, .ref v4, .ref v5, .ref v6, .ref v7]).toArray below meth c H locs cells slots (MQ below (va_Qi K (fun u' t => Wp G u' t.heap) (Ab G)) ([.ref v0, .int v1, .ref v2, .ref v3, .ref v4, .ref v5, .ref v6, .ref v7]).toArray s MC MS (Ab G)) (F0 m 186 ls [])) : ∀ (v8 : Int32) (v10 : Int32) (s0 : Int32) (mc ms : Nat) (u : Mem) (H : Heap) (locs : List Loc) (cells slots : Nat) (ls : Array Slot), w_L_isSo_262 G v0 v1 v2 v3 v4 v5 v6 v7 K J186 v8 v10 s0 mc ms u → Wd G u s H locs → lv_has ls 13 [(0, .ref v0), (1, .int v1), (2, .ref v2), (3, .ref v3), (4, .ref v4), (5, .ref v5), (6, .ref v6), (7, .ref v7), (8, .int v8), (10, .int v10)] → cells + mc = MC → slots + ms = MS → W p l e { frames := 7, cells := MC, slots := MS, locals := 123 } s m ([.ref v0, .int v1, .ref v2, .ref v3, .ref v4, .ref v5, .ref v6, .ref v7]).toArray below meth c H locs cells slots (MQ below (va_Qi K (fun u' t => Wp G u' t.heap) (Ab G)) ([.ref v0, .int v1, .ref v2, .ref v3, .ref v4, .ref v5, .ref v6, .ref v7]).toArray s MC MS (Ab G)) (F0 m 262 ls [.int s0]) := by
  have hx := F.1.1
  have hb := F.1.2.1
  intro v8 v10 s0 mc ms u H locs cells slots ls h hW hl hbc hbs
  unfold w_L_isSo_262 at h
  refine lv_istore (lv' := [(9, .int s0), (0, .ref v0), (1, .int v1), (2, .ref v2), (3, .ref v3), (4, .ref v4), (5, .ref v5), (6, .ref v6), (7, .ref v7), (8, .int v8), (10, .int v10)]) hx hb dL_isSo_262 hl (by decide) rfl (fun ls hl9 => ?_)
  replace hl := hl9
  clear hl9
  refine lv_iinc (v := (v10 + 1)) (lv' := [(10, .int (v10 + 1)), (9, .int s0), (0, .ref v0), (1, .int v1), (2, .ref v2), (3, .ref v3), (4, .ref v4), (5, .ref v5), (6, .ref v6), (7, .ref v7), (8, .int v8)]) hx hb dL_isSo_264 hl (k := 10) rfl rfl (by decide) rfl (fun ls hl9 => ?_)
  replace hl := hl9
  clear hl9
  refine lv_goto (tgt := 186) hx hb dL_isSo_267 (by decide) ?_
  exact hJ186 v8 s0 (v10 + 1) mc ms u _ _ _ _ _ h hW (lv_sub hl [2, 3, 4, 5, 6, 7, 8, 9, 10, 1, 0] rfl) hbc hbs
set_option maxHeartbeats 4000000 in
set_option maxRecDepth 100000 in
theorem t_L_isSo_261 {p : Program} {l : Launch} {e : Env} {s : State} {m : MethodId} {below : List Frame} {meth : Method} {c : Code} {G : Ctx} (v0 : Nat) (v1 : Int32) (v2 : Nat) (v3 : Nat) (v4 : Nat) (v5 : Nat) (v6 : Nat) (v7 : Nat) (MC MS : Nat) (F : Fx p l s m ([.ref v0, .int v1, .ref v2, .ref v3, .ref v4, .ref v5, .ref v6, .ref v7]).toArray meth c cL_isSo 13 RL G) (hr : meth.sig.returnType = (some .boolean)) (K : Int32 → Mem → Prop) (J186 : Int32 → Int32 → Int32 → Nat → Nat → Mem → Prop) (hJ186 : ∀ (v8 : Int32) (v9 : Int32) (v10 : Int32) (mc ms : Nat) (u : Mem) (H : Heap) (locs : List Loc) (cells slots : Nat) (ls : Array Slot), J186 v8 v9 v10 mc ms u → Wd G u s H locs → lv_has ls 13 [(0, .ref v0), (1, .int v1), (2, .ref v2), (3, .ref v3), (4, .ref v4), (5, .ref v5), (6, .ref v6), (7, .ref v7), (8, .int v8), (9, .int v9), (10, .int v10)] → cells + mc = MC → slots + ms = MS → W p l e { frames := 7, cells := MC, slots := MS, locals := 123 } s m ([.ref v0, .int v1, .ref v2, .ref v3, .ref v4, .ref v5, .ref v6, .ref v7]).toArray below meth c H locs cells slots (MQ below (va_Qi K (fun u' t => Wp G u' t.heap) (Ab G)) ([.ref v0, .int v1, .ref v2, .ref v3, .ref v4, .ref v5, .ref v6, .ref v7]).toArray s MC MS (Ab G)) (F0 m 186 ls [])) : ∀ (v8 : Int32) (v10 : Int32) (mc ms : Nat) (u : Mem) (H : Heap) (locs : List Loc) (cells slots : Nat) (ls : Array Slot), w_L_isSo_261 G v0 v1 v2 v3 v4 v5 v6 v7 K J186 v8 v10 mc ms u → Wd G u s H locs → lv_has ls 13 [(0, .ref v0), (1, .int v1), (2, .ref v2), (3, .ref v3), (4, .ref v4), (5, .ref v5), (6, .ref v6), (7, .ref v7), (8, .int v8), (10, .int v10)] → cells + mc = MC → slots + ms = MS → W p l e { frames := 7, cells := MC, slots := MS, locals := 123 } s m ([.ref v0, .int v1, .ref v2, .ref v3, .ref v4, .ref v5, .ref v6, .ref v7]).toArray below meth c H locs cells slots (MQ below (va_Qi K (fun u' t => Wp G u' t.heap) (Ab G)) ([.ref v0, .int v1, .ref v2, .ref v3, .ref v4, .ref v5, .ref v6, .ref v7]).toArray s MC MS (Ab G)) (F0 m 261 ls []) := by
  have hx := F.1.1
  have hb := F.1.2.1
  intro v8 v10 mc ms u H locs cells slots ls h hW hl hbc hbs
  unfold w_L_isSo_261 at h
  refine lv_iconst (v := (0 : Int32)) hx hb dL_isSo_261 (by decide) ?_
  exact t_L_isSo_262 v0 v1 v2 v3 v4 v5 v6 v7 MC MS F hr K J186 hJ186 v8 v10 (0 : Int32) mc ms u _ _ _ _ _ h hW (lv_sub hl [0, 1, 2, 3, 4, 5, 6, 7, 8, 9] rfl) hbc hbs
set_option maxHeartbeats 4000000 in
set_option maxRecDepth 100000 in
theorem t_L_isSo_186 {p : Program} {l : Launch} {e : Env} {s : State} {m : MethodId} {below : List Frame} {meth : Method} {c : Code} {G : Ctx} (v0 : Nat) (v1 : Int32) (v2 : Nat) (v3 : Nat) (v4 : Nat) (v5 : Nat) (v6 : Nat) (v7 : Nat) (MC MS : Nat) (F : Fx p l s m ([.ref v0, .int v1, .ref v2, .ref v3, .ref v4, .ref v5, .ref v6, .ref v7]).toArray meth c cL_isSo 13 RL G) (hr : meth.sig.returnType = (some .boolean)) (K : Int32 → Mem → Prop) : ∀ (n : Nat), ∀ (v8 : Int32) (v9 : Int32) (v10 : Int32) (mc ms : Nat) (u : Mem) (H : Heap) (locs : List Loc) (cells slots : Nat) (ls : Array Slot), w_L_isSo_186 G v0 v1 v2 v3 v4 v5 v6 v7 K n v8 v9 v10 mc ms u → Wd G u s H locs → lv_has ls 13 [(0, .ref v0), (1, .int v1), (2, .ref v2), (3, .ref v3), (4, .ref v4), (5, .ref v5), (6, .ref v6), (7, .ref v7), (8, .int v8), (9, .int v9), (10, .int v10)] → cells + mc = MC → slots + ms = MS → W p l e { frames := 7, cells := MC, slots := MS, locals := 123 } s m ([.ref v0, .int v1, .ref v2, .ref v3, .ref v4, .ref v5, .ref v6, .ref v7]).toArray below meth c H locs cells slots (MQ below (va_Qi K (fun u' t => Wp G u' t.heap) (Ab G)) ([.ref v0, .int v1, .ref v2, .ref v3, .ref v4, .ref v5, .ref v6, .ref v7]).toArray s MC MS (Ab G)) (F0 m 186 ls []) := by
  have hx := F.1.1
  have hb := F.1.2.1
  intro n
  induction n with
  | zero =>
    intro v8 v9 v10 mc ms u H locs cells slots ls h hW hl hbc hbs
    exact h.elim
  | succ n hJ186 =>
    intro v8 v9 v10 mc ms u H locs cells slots ls h hW hl hbc hbs
    have h : b_L_isSo_186 G v0 v1 v2 v3 v4 v5 v6 v7 K (w_L_isSo_186 G v0 v1 v2 v3 v4 v5 v6 v7 K n) v8 v9 v10 mc ms u := h
    revert h
    generalize w_L_isSo_186 G v0 v1 v2 v3 v4 v5 v6 v7 K n = J186 at hJ186 ⊢
    intro h
    unfold b_L_isSo_186 at h
    refine lv_iload hx hb dL_isSo_186 (lv_at hl 10 rfl) ?_
    refine lv_aload hx hb dL_isSo_188 (lv_at hl 7 rfl) ?_
    refine lv_iconst (v := (2 : Int32)) hx hb dL_isSo_190 (by decide) ?_
    refine rIald F hW h.1 h.2.1 dL_isSo_191 ?_
    replace h := h.2.2
    refine lv_icmp_ge (tgt := 270) hx hb dL_isSo_192 (by decide) (fun hc200 => ?_) (fun hc200 => ?_)
    · have h := h.1 hc200
      exact t_L_isSo_270 v0 v1 v2 v3 v4 v5 v6 v7 MC MS F hr K v8 v9 mc ms u _ _ _ _ _ h hW (lv_sub hl [0, 1, 2, 3, 4, 5, 6, 7, 8, 9] rfl) hbc hbs
    · have h := h.2 hc200
      refine lv_iload hx hb dL_isSo_195 (lv_at hl 9 rfl) ?_
      refine lv_if_eq (tgt := 270) hx hb dL_isSo_197 (by decide) (fun hc201 => ?_) (fun hc201 => ?_)
      · have h := h.1 hc201
        exact t_L_isSo_270 v0 v1 v2 v3 v4 v5 v6 v7 MC MS F hr K v8 v9 mc ms u _ _ _ _ _ h hW (lv_sub hl [0, 1, 2, 3, 4, 5, 6, 7, 8, 9] rfl) hbc hbs
      · have h := h.2 hc201
        refine lv_aload_n hx hb dL_isSo_200 rfl (lv_at hl 0 rfl) ?_
        refine lv_iload hx hb dL_isSo_201 (lv_at hl 10 rfl) ?_
        obtain ⟨c204, b205, h1, h2, h⟩ := h
        have hf1 := bdf hbc h1
        have hf2 := bdf hbs h2
        obtain ⟨hob, h⟩ := h
        refine cX (runX (n := 1) (As := [.int v10]) (rest := []) F hW (c_X5_state F.2.2.2 G v0 v10 c204 b205 u _ _ h) hob (ci := 6) rfl q_383 q_384 q_385 q_2 q_386 rfl (by decide +kernel) ⟨Nat.le_of_ble_eq_true rfl, Nat.le_of_ble_eq_true rfl⟩ dL_isSo_203 rfl hl.1 (Nat.le_of_ble_eq_true rfl) ⟨hf1, hf2⟩) hW (fun r203 u202 h9 H locs hW => ?_) (fun E u202 h9 H locs hW => ?_)
        · replace h := h9
          clear h9
          replace hbc := bdg hbc h1
          replace hbs := bdg hbs h2
          clear h1 h2 hf1 hf2
          refine lv_aload hx hb dL_isSo_206 (lv_at hl 4 rfl) ?_
          refine lv_bipush (v := (6 : Int32)) hx hb dL_isSo_208 (by decide) ?_
          refine lv_iload hx hb dL_isSo_210 (lv_at hl 10 rfl) ?_
          refine lv_imul hx hb dL_isSo_212 ?_
          refine lv_iconst (v := (2 : Int32)) hx hb dL_isSo_213 (by decide) ?_
          refine lv_iadd hx hb dL_isSo_214 ?_
          refine rIald F hW h.1 h.2.1 dL_isSo_215 ?_
          replace h := h.2.2
          refine lv_icmp_ne (tgt := 261) hx hb dL_isSo_216 (by decide) (fun hc206 => ?_) (fun hc206 => ?_)
          · have h := h.2 hc206
            exact t_L_isSo_261 v0 v1 v2 v3 v4 v5 v6 v7 MC MS F hr K J186 hJ186 v8 v10 (mc - c204) (ms - b205) u202 _ _ _ _ _ h hW (lv_sub hl [0, 1, 2, 3, 4, 5, 6, 7, 8, 10] rfl) hbc hbs
          · have h := h.1 hc206
            refine lv_aload_n hx hb dL_isSo_219 rfl (lv_at hl 0 rfl) ?_
            refine lv_iload hx hb dL_isSo_220 (lv_at hl 10 rfl) ?_
            obtain ⟨c209, b210, h1, h2, h⟩ := h
            have hf1 := bdf hbc h1
            have hf2 := bdf hbs h2
            obtain ⟨hob, h⟩ := h
            refine cX (runX (n := 1) (As := [.int v10]) (rest := []) F hW (c_X5_escortOf F.2.2.2 G v0 v10 c209 b210 u202 _ _ h) hob (ci := 6) rfl q_387 q_388 q_389 q_2 q_390 rfl (by decide +kernel) ⟨Nat.le_of_ble_eq_true rfl, Nat.le_of_ble_eq_true rfl⟩ dL_isSo_222 rfl hl.1 (Nat.le_of_ble_eq_true rfl) ⟨hf1, hf2⟩) hW (fun r208 u207 h9 H locs hW => ?_) (fun E u207 h9 H locs hW => ?_)
            · replace h := h9
              clear h9
              replace hbc := bdg hbc h1
              replace hbs := bdg hbs h2
              clear h1 h2 hf1 hf2
              refine lv_aload hx hb dL_isSo_225 (lv_at hl 4 rfl) ?_
              refine lv_bipush (v := (6 : Int32)) hx hb dL_isSo_227 (by decide) ?_
              refine lv_iload hx hb dL_isSo_229 (lv_at hl 10 rfl) ?_
              refine lv_imul hx hb dL_isSo_231 ?_
              refine lv_iconst (v := (3 : Int32)) hx hb dL_isSo_232 (by decide) ?_
              refine lv_iadd hx hb dL_isSo_233 ?_
              refine rIald F hW h.1 h.2.1 dL_isSo_234 ?_
              replace h := h.2.2
              refine lv_icmp_ne (tgt := 261) hx hb dL_isSo_235 (by decide) (fun hc211 => ?_) (fun hc211 => ?_)
              · have h := h.2 hc211
                exact t_L_isSo_261 v0 v1 v2 v3 v4 v5 v6 v7 MC MS F hr K J186 hJ186 v8 v10 ((mc - c204) - c209) ((ms - b205) - b210) u207 _ _ _ _ _ h hW (lv_sub hl [0, 1, 2, 3, 4, 5, 6, 7, 8, 10] rfl) hbc hbs
              · have h := h.1 hc211
                refine lv_aload_n hx hb dL_isSo_238 rfl (lv_at hl 0 rfl) ?_
                refine lv_iload hx hb dL_isSo_239 (lv_at hl 10 rfl) ?_
                obtain ⟨c214, b215, h1, h2, h⟩ := h
                have hf1 := bdf hbc h1
                have hf2 := bdf hbs h2
                obtain ⟨hob, h⟩ := h
                refine cX (runX (n := 1) (As := [.int v10]) (rest := []) F hW (c_X5_dark F.2.2.2 G v0 v10 c214 b215 u207 _ _ h) hob (ci := 6) rfl q_391 q_392 q_393 q_2 q_394 rfl (by decide +kernel) ⟨Nat.le_of_ble_eq_true rfl, Nat.le_of_ble_eq_true rfl⟩ dL_isSo_241 rfl hl.1 (Nat.le_of_ble_eq_true rfl) ⟨hf1, hf2⟩) hW (fun r213 u212 h9 H locs hW => ?_) (fun E u212 h9 H locs hW => ?_)
                · replace h := h9
                  clear h9
                  replace hbc := bdg hbc h1
                  replace hbs := bdg hbs h2
                  clear h1 h2 hf1 hf2
                  refine lv_aload hx hb dL_isSo_244 (lv_at hl 4 rfl) ?_
                  refine lv_bipush (v := (6 : Int32)) hx hb dL_isSo_246 (by decide) ?_
                  refine lv_iload hx hb dL_isSo_248 (lv_at hl 10 rfl) ?_
                  refine lv_imul hx hb dL_isSo_250 ?_
                  refine lv_iconst (v := (4 : Int32)) hx hb dL_isSo_251 (by decide) ?_
                  refine lv_iadd hx hb dL_isSo_252 ?_
                  refine rIald F hW h.1 h.2.1 dL_isSo_253 ?_
                  replace h := h.2.2
                  refine lv_icmp_ne (tgt := 261) hx hb dL_isSo_254 (by decide) (fun hc216 => ?_) (fun hc216 => ?_)
                  · have h := h.2 hc216
                    exact t_L_isSo_261 v0 v1 v2 v3 v4 v5 v6 v7 MC MS F hr K J186 hJ186 v8 v10 (((mc - c204) - c209) - c214) (((ms - b205) - b210) - b215) u212 _ _ _ _ _ h hW (lv_sub hl [0, 1, 2, 3, 4, 5, 6, 7, 8, 10] rfl) hbc hbs
                  · have h := h.1 hc216
                    refine lv_iconst (v := (1 : Int32)) hx hb dL_isSo_257 (by decide) ?_
                    refine lv_goto (tgt := 262) hx hb dL_isSo_258 (by decide) ?_
                    exact t_L_isSo_262 v0 v1 v2 v3 v4 v5 v6 v7 MC MS F hr K J186 hJ186 v8 v10 (1 : Int32) (((mc - c204) - c209) - c214) (((ms - b205) - b210) - b215) u212 _ _ _ _ _ h hW (lv_sub hl [0, 1, 2, 3, 4, 5, 6, 7, 8, 10] rfl) hbc hbs
                · exact h9.elim
            · exact h9.elim
        · exact h9.elim
set_option maxHeartbeats 4000000 in
set_option maxRecDepth 100000 in
theorem t_L_isSo_183 {p : Program} {l : Launch} {e : Env} {s : State} {m : MethodId} {below : List Frame} {meth : Method} {c : Code} {G : Ctx} (v0 : Nat) (v1 : Int32) (v2 : Nat) (v3 : Nat) (v4 : Nat) (v5 : Nat) (v6 : Nat) (v7 : Nat) (MC MS : Nat) (F : Fx p l s m ([.ref v0, .int v1, .ref v2, .ref v3, .ref v4, .ref v5, .ref v6, .ref v7]).toArray meth c cL_isSo 13 RL G) (hr : meth.sig.returnType = (some .boolean)) (K : Int32 → Mem → Prop) : ∀ (v8 : Int32) (v9 : Int32) (mc ms : Nat) (u : Mem) (H : Heap) (locs : List Loc) (cells slots : Nat) (ls : Array Slot), w_L_isSo_183 G v0 v1 v2 v3 v4 v5 v6 v7 K v8 v9 mc ms u → Wd G u s H locs → lv_has ls 13 [(0, .ref v0), (1, .int v1), (2, .ref v2), (3, .ref v3), (4, .ref v4), (5, .ref v5), (6, .ref v6), (7, .ref v7), (8, .int v8), (9, .int v9)] → cells + mc = MC → slots + ms = MS → W p l e { frames := 7, cells := MC, slots := MS, locals := 123 } s m ([.ref v0, .int v1, .ref v2, .ref v3, .ref v4, .ref v5, .ref v6, .ref v7]).toArray below meth c H locs cells slots (MQ below (va_Qi K (fun u' t => Wp G u' t.heap) (Ab G)) ([.ref v0, .int v1, .ref v2, .ref v3, .ref v4, .ref v5, .ref v6, .ref v7]).toArray s MC MS (Ab G)) (F0 m 183 ls []) := by
  have hx := F.1.1
  have hb := F.1.2.1
  intro v8 v9 mc ms u H locs cells slots ls h hW hl hbc hbs
  unfold w_L_isSo_183 at h
  refine lv_iconst (v := (0 : Int32)) hx hb dL_isSo_183 (by decide) ?_
  refine lv_istore (lv' := [(10, .int (0 : Int32)), (0, .ref v0), (1, .int v1), (2, .ref v2), (3, .ref v3), (4, .ref v4), (5, .ref v5), (6, .ref v6), (7, .ref v7), (8, .int v8), (9, .int v9)]) hx hb dL_isSo_184 hl (by decide) rfl (fun ls hl9 => ?_)
  replace hl := hl9
  clear hl9
  obtain ⟨n, h⟩ := h
  exact t_L_isSo_186 v0 v1 v2 v3 v4 v5 v6 v7 MC MS F hr K n v8 v9 (0 : Int32) mc ms u _ _ _ _ _ h hW (lv_sub hl [1, 2, 3, 4, 5, 6, 7, 8, 9, 10, 0] rfl) hbc hbs
set_option maxHeartbeats 4000000 in
set_option maxRecDepth 100000 in
theorem t_L_isSo_175 {p : Program} {l : Launch} {e : Env} {s : State} {m : MethodId} {below : List Frame} {meth : Method} {c : Code} {G : Ctx} (v0 : Nat) (v1 : Int32) (v2 : Nat) (v3 : Nat) (v4 : Nat) (v5 : Nat) (v6 : Nat) (v7 : Nat) (MC MS : Nat) (F : Fx p l s m ([.ref v0, .int v1, .ref v2, .ref v3, .ref v4, .ref v5, .ref v6, .ref v7]).toArray meth c cL_isSo 13 RL G) (hr : meth.sig.returnType = (some .boolean)) (K : Int32 → Mem → Prop) (J127 : Int32 → Int32 → Int32 → Nat → Nat → Mem → Prop) (hJ127 : ∀ (v8 : Int32) (v9 : Int32) (v10 : Int32) (mc ms : Nat) (u : Mem) (H : Heap) (locs : List Loc) (cells slots : Nat) (ls : Array Slot), J127 v8 v9 v10 mc ms u → Wd G u s H locs → lv_has ls 13 [(0, .ref v0), (1, .int v1), (2, .ref v2), (3, .ref v3), (4, .ref v4), (5, .ref v5), (6, .ref v6), (7, .ref v7), (8, .int v8), (9, .int v9), (10, .int v10)] → cells + mc = MC → slots + ms = MS → W p l e { frames := 7, cells := MC, slots := MS, locals := 123 } s m ([.ref v0, .int v1, .ref v2, .ref v3, .ref v4, .ref v5, .ref v6, .ref v7]).toArray below meth c H locs cells slots (MQ below (va_Qi K (fun u' t => Wp G u' t.heap) (Ab G)) ([.ref v0, .int v1, .ref v2, .ref v3, .ref v4, .ref v5, .ref v6, .ref v7]).toArray s MC MS (Ab G)) (F0 m 127 ls [])) : ∀ (v8 : Int32) (v10 : Int32) (s0 : Int32) (mc ms : Nat) (u : Mem) (H : Heap) (locs : List Loc) (cells slots : Nat) (ls : Array Slot), w_L_isSo_175 G v0 v1 v2 v3 v4 v5 v6 v7 K J127 v8 v10 s0 mc ms u → Wd G u s H locs → lv_has ls 13 [(0, .ref v0), (1, .int v1), (2, .ref v2), (3, .ref v3), (4, .ref v4), (5, .ref v5), (6, .ref v6), (7, .ref v7), (8, .int v8), (10, .int v10)] → cells + mc = MC → slots + ms = MS → W p l e { frames := 7, cells := MC, slots := MS, locals := 123 } s m ([.ref v0, .int v1, .ref v2, .ref v3, .ref v4, .ref v5, .ref v6, .ref v7]).toArray below meth c H locs cells slots (MQ below (va_Qi K (fun u' t => Wp G u' t.heap) (Ab G)) ([.ref v0, .int v1, .ref v2, .ref v3, .ref v4, .ref v5, .ref v6, .ref v7]).toArray s MC MS (Ab G)) (F0 m 175 ls [.int s0]) := by
  have hx := F.1.1
  have hb := F.1.2.1
  intro v8 v10 s0 mc ms u H locs cells slots ls h hW hl hbc hbs
  unfold w_L_isSo_175 at h
  refine lv_istore (lv' := [(9, .int s0), (0, .ref v0), (1, .int v1), (2, .ref v2), (3, .ref v3), (4, .ref v4), (5, .ref v5), (6, .ref v6), (7, .ref v7), (8, .int v8), (10, .int v10)]) hx hb dL_isSo_175 hl (by decide) rfl (fun ls hl9 => ?_)
  replace hl := hl9
  clear hl9
  refine lv_iinc (v := (v10 + 1)) (lv' := [(10, .int (v10 + 1)), (9, .int s0), (0, .ref v0), (1, .int v1), (2, .ref v2), (3, .ref v3), (4, .ref v4), (5, .ref v5), (6, .ref v6), (7, .ref v7), (8, .int v8)]) hx hb dL_isSo_177 hl (k := 10) rfl rfl (by decide) rfl (fun ls hl9 => ?_)
  replace hl := hl9
  clear hl9
  refine lv_goto (tgt := 127) hx hb dL_isSo_180 (by decide) ?_
  exact hJ127 v8 s0 (v10 + 1) mc ms u _ _ _ _ _ h hW (lv_sub hl [2, 3, 4, 5, 6, 7, 8, 9, 10, 1, 0] rfl) hbc hbs
set_option maxHeartbeats 4000000 in
set_option maxRecDepth 100000 in
theorem t_L_isSo_174 {p : Program} {l : Launch} {e : Env} {s : State} {m : MethodId} {below : List Frame} {meth : Method} {c : Code} {G : Ctx} (v0 : Nat) (v1 : Int32) (v2 : Nat) (v3 : Nat) (v4 : Nat) (v5 : Nat) (v6 : Nat) (v7 : Nat) (MC MS : Nat) (F : Fx p l s m ([.ref v0, .int v1, .ref v2, .ref v3, .ref v4, .ref v5, .ref v6, .ref v7]).toArray meth c cL_isSo 13 RL G) (hr : meth.sig.returnType = (some .boolean)) (K : Int32 → Mem → Prop) (J127 : Int32 → Int32 → Int32 → Nat → Nat → Mem → Prop) (hJ127 : ∀ (v8 : Int32) (v9 : Int32) (v10 : Int32) (mc ms : Nat) (u : Mem) (H : Heap) (locs : List Loc) (cells slots : Nat) (ls : Array Slot), J127 v8 v9 v10 mc ms u → Wd G u s H locs → lv_has ls 13 [(0, .ref v0), (1, .int v1), (2, .ref v2), (3, .ref v3), (4, .ref v4), (5, .ref v5), (6, .ref v6), (7, .ref v7), (8, .int v8), (9, .int v9), (10, .int v10)] → cells + mc = MC → slots + ms = MS → W p l e { frames := 7, cells := MC, slots := MS, locals := 123 } s m ([.ref v0, .int v1, .ref v2, .ref v3, .ref v4, .ref v5, .ref v6, .ref v7]).toArray below meth c H locs cells slots (MQ below (va_Qi K (fun u' t => Wp G u' t.heap) (Ab G)) ([.ref v0, .int v1, .ref v2, .ref v3, .ref v4, .ref v5, .ref v6, .ref v7]).toArray s MC MS (Ab G)) (F0 m 127 ls [])) : ∀ (v8 : Int32) (v10 : Int32) (mc ms : Nat) (u : Mem) (H : Heap) (locs : List Loc) (cells slots : Nat) (ls : Array Slot), w_L_isSo_174 G v0 v1 v2 v3 v4 v5 v6 v7 K J127 v8 v10 mc ms u → Wd G u s H locs → lv_has ls 13 [(0, .ref v0), (1, .int v1), (2, .ref v2), (3, .ref v3), (4, .ref v4), (5, .ref v5), (6, .ref v6), (7, .ref v7), (8, .int v8), (10, .int v10)] → cells + mc = MC → slots + ms = MS → W p l e { frames := 7, cells := MC, slots := MS, locals := 123 } s m ([.ref v0, .int v1, .ref v2, .ref v3, .ref v4, .ref v5, .ref v6, .ref v7]).toArray below meth c H locs cells slots (MQ below (va_Qi K (fun u' t => Wp G u' t.heap) (Ab G)) ([.ref v0, .int v1, .ref v2, .ref v3, .ref v4, .ref v5, .ref v6, .ref v7]).toArray s MC MS (Ab G)) (F0 m 174 ls []) := by
  have hx := F.1.1
  have hb := F.1.2.1
  intro v8 v10 mc ms u H locs cells slots ls h hW hl hbc hbs
  unfold w_L_isSo_174 at h
  refine lv_iconst (v := (0 : Int32)) hx hb dL_isSo_174 (by decide) ?_
  exact t_L_isSo_175 v0 v1 v2 v3 v4 v5 v6 v7 MC MS F hr K J127 hJ127 v8 v10 (0 : Int32) mc ms u _ _ _ _ _ h hW (lv_sub hl [0, 1, 2, 3, 4, 5, 6, 7, 8, 9] rfl) hbc hbs
set_option maxHeartbeats 4000000 in
set_option maxRecDepth 100000 in
theorem t_L_isSo_127 {p : Program} {l : Launch} {e : Env} {s : State} {m : MethodId} {below : List Frame} {meth : Method} {c : Code} {G : Ctx} (v0 : Nat) (v1 : Int32) (v2 : Nat) (v3 : Nat) (v4 : Nat) (v5 : Nat) (v6 : Nat) (v7 : Nat) (MC MS : Nat) (F : Fx p l s m ([.ref v0, .int v1, .ref v2, .ref v3, .ref v4, .ref v5, .ref v6, .ref v7]).toArray meth c cL_isSo 13 RL G) (hr : meth.sig.returnType = (some .boolean)) (K : Int32 → Mem → Prop) : ∀ (n : Nat), ∀ (v8 : Int32) (v9 : Int32) (v10 : Int32) (mc ms : Nat) (u : Mem) (H : Heap) (locs : List Loc) (cells slots : Nat) (ls : Array Slot), w_L_isSo_127 G v0 v1 v2 v3 v4 v5 v6 v7 K n v8 v9 v10 mc ms u → Wd G u s H locs → lv_has ls 13 [(0, .ref v0), (1, .int v1), (2, .ref v2), (3, .ref v3), (4, .ref v4), (5, .ref v5), (6, .ref v6), (7, .ref v7), (8, .int v8), (9, .int v9), (10, .int v10)] → cells + mc = MC → slots + ms = MS → W p l e { frames := 7, cells := MC, slots := MS, locals := 123 } s m ([.ref v0, .int v1, .ref v2, .ref v3, .ref v4, .ref v5, .ref v6, .ref v7]).toArray below meth c H locs cells slots (MQ below (va_Qi K (fun u' t => Wp G u' t.heap) (Ab G)) ([.ref v0, .int v1, .ref v2, .ref v3, .ref v4, .ref v5, .ref v6, .ref v7]).toArray s MC MS (Ab G)) (F0 m 127 ls []) := by
  have hx := F.1.1
  have hb := F.1.2.1
  intro n
  induction n with
  | zero =>
    intro v8 v9 v10 mc ms u H locs cells slots ls h hW hl hbc hbs
    exact h.elim
  | succ n hJ127 =>
    intro v8 v9 v10 mc ms u H locs cells slots ls h hW hl hbc hbs
    have h : b_L_isSo_127 G v0 v1 v2 v3 v4 v5 v6 v7 K (w_L_isSo_127 G v0 v1 v2 v3 v4 v5 v6 v7 K n) v8 v9 v10 mc ms u := h
    revert h
    generalize w_L_isSo_127 G v0 v1 v2 v3 v4 v5 v6 v7 K n = J127 at hJ127 ⊢
    intro h
    unfold b_L_isSo_127 at h
    refine lv_iload hx hb dL_isSo_127 (lv_at hl 10 rfl) ?_
    refine lv_iconst (v := (4 : Int32)) hx hb dL_isSo_129 (by decide) ?_
    refine lv_icmp_ge (tgt := 183) hx hb dL_isSo_130 (by decide) (fun hc217 => ?_) (fun hc217 => ?_)
    · have h := h.1 hc217
      exact t_L_isSo_183 v0 v1 v2 v3 v4 v5 v6 v7 MC MS F hr K v8 v9 mc ms u _ _ _ _ _ h hW (lv_sub hl [0, 1, 2, 3, 4, 5, 6, 7, 8, 9] rfl) hbc hbs
    · have h := h.2 hc217
      refine lv_iload hx hb dL_isSo_133 (lv_at hl 9 rfl) ?_
      refine lv_if_eq (tgt := 183) hx hb dL_isSo_135 (by decide) (fun hc218 => ?_) (fun hc218 => ?_)
      · have h := h.1 hc218
        exact t_L_isSo_183 v0 v1 v2 v3 v4 v5 v6 v7 MC MS F hr K v8 v9 mc ms u _ _ _ _ _ h hW (lv_sub hl [0, 1, 2, 3, 4, 5, 6, 7, 8, 9] rfl) hbc hbs
      · have h := h.2 hc218
        refine lv_aload_n hx hb dL_isSo_138 rfl (lv_at hl 0 rfl) ?_
        refine lv_iload hx hb dL_isSo_139 (lv_at hl 10 rfl) ?_
        obtain ⟨c221, b222, h1, h2, h⟩ := h
        have hf1 := bdf hbc h1
        have hf2 := bdf hbs h2
        obtain ⟨hob, h⟩ := h
        refine cX (runX (n := 1) (As := [.int v10]) (rest := []) F hW (c_X5_streetOf F.2.2.2 G v0 v10 c221 b222 u _ _ h) hob (ci := 6) rfl q_375 q_376 q_377 q_2 q_378 rfl (by decide +kernel) ⟨Nat.le_of_ble_eq_true rfl, Nat.le_of_ble_eq_true rfl⟩ dL_isSo_141 rfl hl.1 (Nat.le_of_ble_eq_true rfl) ⟨hf1, hf2⟩) hW (fun r220 u219 h9 H locs hW => ?_) (fun E u219 h9 H locs hW => ?_)
        · replace h := h9
          clear h9
          replace hbc := bdg hbc h1
          replace hbs := bdg hbs h2
          clear h1 h2 hf1 hf2
          refine lv_aload_n hx hb dL_isSo_144 rfl (lv_at hl 3 rfl) ?_
          refine lv_iconst (v := (3 : Int32)) hx hb dL_isSo_145 (by decide) ?_
          refine lv_iload hx hb dL_isSo_146 (lv_at hl 10 rfl) ?_
          refine lv_imul hx hb dL_isSo_148 ?_
          refine rIald F hW h.1 h.2.1 dL_isSo_149 ?_
          replace h := h.2.2
          refine lv_icmp_ne (tgt := 174) hx hb dL_isSo_150 (by decide) (fun hc223 => ?_) (fun hc223 => ?_)
          · have h := h.2 hc223
            exact t_L_isSo_174 v0 v1 v2 v3 v4 v5 v6 v7 MC MS F hr K J127 hJ127 v8 v10 (mc - c221) (ms - b222) u219 _ _ _ _ _ h hW (lv_sub hl [0, 1, 2, 3, 4, 5, 6, 7, 8, 10] rfl) hbc hbs
          · have h := h.1 hc223
            refine lv_aload_n hx hb dL_isSo_153 rfl (lv_at hl 0 rfl) ?_
            refine lv_iload hx hb dL_isSo_154 (lv_at hl 10 rfl) ?_
            obtain ⟨c226, b227, h1, h2, h⟩ := h
            have hf1 := bdf hbc h1
            have hf2 := bdf hbs h2
            obtain ⟨hob, h⟩ := h
            refine cX (runX (n := 1) (As := [.int v10]) (rest := []) F hW (c_X5_rank F.2.2.2 G v0 v10 c226 b227 u219 _ _ h) hob (ci := 6) rfl q_379 q_380 q_381 q_2 q_382 rfl (by decide +kernel) ⟨Nat.le_of_ble_eq_true rfl, Nat.le_of_ble_eq_true rfl⟩ dL_isSo_156 rfl hl.1 (Nat.le_of_ble_eq_true rfl) ⟨hf1, hf2⟩) hW (fun r225 u224 h9 H locs hW => ?_) (fun E u224 h9 H locs hW => ?_)
            · replace h := h9
              clear h9
              replace hbc := bdg hbc h1
              replace hbs := bdg hbs h2
              clear h1 h2 hf1 hf2
              refine lv_aload_n hx hb dL_isSo_159 rfl (lv_at hl 3 rfl) ?_
              refine lv_iconst (v := (3 : Int32)) hx hb dL_isSo_160 (by decide) ?_
              refine lv_iload hx hb dL_isSo_161 (lv_at hl 10 rfl) ?_
              refine lv_imul hx hb dL_isSo_163 ?_
              refine lv_iconst (v := (1 : Int32)) hx hb dL_isSo_164 (by decide) ?_
              refine lv_iadd hx hb dL_isSo_165 ?_
              refine rIald F hW h.1 h.2.1 dL_isSo_166 ?_
              replace h := h.2.2
              refine lv_icmp_ne (tgt := 174) hx hb dL_isSo_167 (by decide) (fun hc228 => ?_) (fun hc228 => ?_)
              · have h := h.2 hc228
                exact t_L_isSo_174 v0 v1 v2 v3 v4 v5 v6 v7 MC MS F hr K J127 hJ127 v8 v10 ((mc - c221) - c226) ((ms - b222) - b227) u224 _ _ _ _ _ h hW (lv_sub hl [0, 1, 2, 3, 4, 5, 6, 7, 8, 10] rfl) hbc hbs
              · have h := h.1 hc228
                refine lv_iconst (v := (1 : Int32)) hx hb dL_isSo_170 (by decide) ?_
                refine lv_goto (tgt := 175) hx hb dL_isSo_171 (by decide) ?_
                exact t_L_isSo_175 v0 v1 v2 v3 v4 v5 v6 v7 MC MS F hr K J127 hJ127 v8 v10 (1 : Int32) ((mc - c221) - c226) ((ms - b222) - b227) u224 _ _ _ _ _ h hW (lv_sub hl [0, 1, 2, 3, 4, 5, 6, 7, 8, 10] rfl) hbc hbs
            · exact h9.elim
        · exact h9.elim
set_option maxHeartbeats 4000000 in
set_option maxRecDepth 100000 in
theorem t_L_isSo_124 {p : Program} {l : Launch} {e : Env} {s : State} {m : MethodId} {below : List Frame} {meth : Method} {c : Code} {G : Ctx} (v0 : Nat) (v1 : Int32) (v2 : Nat) (v3 : Nat) (v4 : Nat) (v5 : Nat) (v6 : Nat) (v7 : Nat) (MC MS : Nat) (F : Fx p l s m ([.ref v0, .int v1, .ref v2, .ref v3, .ref v4, .ref v5, .ref v6, .ref v7]).toArray meth c cL_isSo 13 RL G) (hr : meth.sig.returnType = (some .boolean)) (K : Int32 → Mem → Prop) : ∀ (v8 : Int32) (v9 : Int32) (mc ms : Nat) (u : Mem) (H : Heap) (locs : List Loc) (cells slots : Nat) (ls : Array Slot), w_L_isSo_124 G v0 v1 v2 v3 v4 v5 v6 v7 K v8 v9 mc ms u → Wd G u s H locs → lv_has ls 13 [(0, .ref v0), (1, .int v1), (2, .ref v2), (3, .ref v3), (4, .ref v4), (5, .ref v5), (6, .ref v6), (7, .ref v7), (8, .int v8), (9, .int v9)] → cells + mc = MC → slots + ms = MS → W p l e { frames := 7, cells := MC, slots := MS, locals := 123 } s m ([.ref v0, .int v1, .ref v2, .ref v3, .ref v4, .ref v5, .ref v6, .ref v7]).toArray below meth c H locs cells slots (MQ below (va_Qi K (fun u' t => Wp G u' t.heap) (Ab G)) ([.ref v0, .int v1, .ref v2, .ref v3, .ref v4, .ref v5, .ref v6, .ref v7]).toArray s MC MS (Ab G)) (F0 m 124 ls []) := by
  have hx := F.1.1
  have hb := F.1.2.1
  intro v8 v9 mc ms u H locs cells slots ls h hW hl hbc hbs
  unfold w_L_isSo_124 at h
  refine lv_iconst (v := (0 : Int32)) hx hb dL_isSo_124 (by decide) ?_
  refine lv_istore (lv' := [(10, .int (0 : Int32)), (0, .ref v0), (1, .int v1), (2, .ref v2), (3, .ref v3), (4, .ref v4), (5, .ref v5), (6, .ref v6), (7, .ref v7), (8, .int v8), (9, .int v9)]) hx hb dL_isSo_125 hl (by decide) rfl (fun ls hl9 => ?_)
  replace hl := hl9
  clear hl9
  obtain ⟨n, h⟩ := h
  exact t_L_isSo_127 v0 v1 v2 v3 v4 v5 v6 v7 MC MS F hr K n v8 v9 (0 : Int32) mc ms u _ _ _ _ _ h hW (lv_sub hl [1, 2, 3, 4, 5, 6, 7, 8, 9, 10, 0] rfl) hbc hbs
set_option maxHeartbeats 4000000 in
set_option maxRecDepth 100000 in
theorem t_L_isSo_116 {p : Program} {l : Launch} {e : Env} {s : State} {m : MethodId} {below : List Frame} {meth : Method} {c : Code} {G : Ctx} (v0 : Nat) (v1 : Int32) (v2 : Nat) (v3 : Nat) (v4 : Nat) (v5 : Nat) (v6 : Nat) (v7 : Nat) (MC MS : Nat) (F : Fx p l s m ([.ref v0, .int v1, .ref v2, .ref v3, .ref v4, .ref v5, .ref v6, .ref v7]).toArray meth c cL_isSo 13 RL G) (hr : meth.sig.returnType = (some .boolean)) (K : Int32 → Mem → Prop) (J57 : Int32 → Int32 → Int32 → Nat → Nat → Mem → Prop) (hJ57 : ∀ (v8 : Int32) (v9 : Int32) (v10 : Int32) (mc ms : Nat) (u : Mem) (H : Heap) (locs : List Loc) (cells slots : Nat) (ls : Array Slot), J57 v8 v9 v10 mc ms u → Wd G u s H locs → lv_has ls 13 [(0, .ref v0), (1, .int v1), (2, .ref v2), (3, .ref v3), (4, .ref v4), (5, .ref v5), (6, .ref v6), (7, .ref v7), (8, .int v8), (9, .int v9), (10, .int v10)] → cells + mc = MC → slots + ms = MS → W p l e { frames := 7, cells := MC, slots := MS, locals := 123 } s m ([.ref v0, .int v1, .ref v2, .ref v3, .ref v4, .ref v5, .ref v6, .ref v7]).toArray below meth c H locs cells slots (MQ below (va_Qi K (fun u' t => Wp G u' t.heap) (Ab G)) ([.ref v0, .int v1, .ref v2, .ref v3, .ref v4, .ref v5, .ref v6, .ref v7]).toArray s MC MS (Ab G)) (F0 m 57 ls [])) : ∀ (v8 : Int32) (v10 : Int32) (s0 : Int32) (mc ms : Nat) (u : Mem) (H : Heap) (locs : List Loc) (cells slots : Nat) (ls : Array Slot), w_L_isSo_116 G v0 v1 v2 v3 v4 v5 v6 v7 K J57 v8 v10 s0 mc ms u → Wd G u s H locs → lv_has ls 13 [(0, .ref v0), (1, .int v1), (2, .ref v2), (3, .ref v3), (4, .ref v4), (5, .ref v5), (6, .ref v6), (7, .ref v7), (8, .int v8), (10, .int v10)] → cells + mc = MC → slots + ms = MS → W p l e { frames := 7, cells := MC, slots := MS, locals := 123 } s m ([.ref v0, .int v1, .ref v2, .ref v3, .ref v4, .ref v5, .ref v6, .ref v7]).toArray below meth c H locs cells slots (MQ below (va_Qi K (fun u' t => Wp G u' t.heap) (Ab G)) ([.ref v0, .int v1, .ref v2, .ref v3, .ref v4, .ref v5, .ref v6, .ref v7]).toArray s MC MS (Ab G)) (F0 m 116 ls [.int s0]) := by
  have hx := F.1.1
  have hb := F.1.2.1
  intro v8 v10 s0 mc ms u H locs cells slots ls h hW hl hbc hbs
  unfold w_L_isSo_116 at h
  refine lv_istore (lv' := [(9, .int s0), (0, .ref v0), (1, .int v1), (2, .ref v2), (3, .ref v3), (4, .ref v4), (5, .ref v5), (6, .ref v6), (7, .ref v7), (8, .int v8), (10, .int v10)]) hx hb dL_isSo_116 hl (by decide) rfl (fun ls hl9 => ?_)
  replace hl := hl9
  clear hl9
  refine lv_iinc (v := (v10 + 1)) (lv' := [(10, .int (v10 + 1)), (9, .int s0), (0, .ref v0), (1, .int v1), (2, .ref v2), (3, .ref v3), (4, .ref v4), (5, .ref v5), (6, .ref v6), (7, .ref v7), (8, .int v8)]) hx hb dL_isSo_118 hl (k := 10) rfl rfl (by decide) rfl (fun ls hl9 => ?_)
  replace hl := hl9
  clear hl9
  refine lv_goto (tgt := 57) hx hb dL_isSo_121 (by decide) ?_
  exact hJ57 v8 s0 (v10 + 1) mc ms u _ _ _ _ _ h hW (lv_sub hl [2, 3, 4, 5, 6, 7, 8, 9, 10, 1, 0] rfl) hbc hbs
set_option maxHeartbeats 4000000 in
set_option maxRecDepth 100000 in
theorem t_L_isSo_115 {p : Program} {l : Launch} {e : Env} {s : State} {m : MethodId} {below : List Frame} {meth : Method} {c : Code} {G : Ctx} (v0 : Nat) (v1 : Int32) (v2 : Nat) (v3 : Nat) (v4 : Nat) (v5 : Nat) (v6 : Nat) (v7 : Nat) (MC MS : Nat) (F : Fx p l s m ([.ref v0, .int v1, .ref v2, .ref v3, .ref v4, .ref v5, .ref v6, .ref v7]).toArray meth c cL_isSo 13 RL G) (hr : meth.sig.returnType = (some .boolean)) (K : Int32 → Mem → Prop) (J57 : Int32 → Int32 → Int32 → Nat → Nat → Mem → Prop) (hJ57 : ∀ (v8 : Int32) (v9 : Int32) (v10 : Int32) (mc ms : Nat) (u : Mem) (H : Heap) (locs : List Loc) (cells slots : Nat) (ls : Array Slot), J57 v8 v9 v10 mc ms u → Wd G u s H locs → lv_has ls 13 [(0, .ref v0), (1, .int v1), (2, .ref v2), (3, .ref v3), (4, .ref v4), (5, .ref v5), (6, .ref v6), (7, .ref v7), (8, .int v8), (9, .int v9), (10, .int v10)] → cells + mc = MC → slots + ms = MS → W p l e { frames := 7, cells := MC, slots := MS, locals := 123 } s m ([.ref v0, .int v1, .ref v2, .ref v3, .ref v4, .ref v5, .ref v6, .ref v7]).toArray below meth c H locs cells slots (MQ below (va_Qi K (fun u' t => Wp G u' t.heap) (Ab G)) ([.ref v0, .int v1, .ref v2, .ref v3, .ref v4, .ref v5, .ref v6, .ref v7]).toArray s MC MS (Ab G)) (F0 m 57 ls [])) : ∀ (v8 : Int32) (v10 : Int32) (mc ms : Nat) (u : Mem) (H : Heap) (locs : List Loc) (cells slots : Nat) (ls : Array Slot), w_L_isSo_115 G v0 v1 v2 v3 v4 v5 v6 v7 K J57 v8 v10 mc ms u → Wd G u s H locs → lv_has ls 13 [(0, .ref v0), (1, .int v1), (2, .ref v2), (3, .ref v3), (4, .ref v4), (5, .ref v5), (6, .ref v6), (7, .ref v7), (8, .int v8), (10, .int v10)] → cells + mc = MC → slots + ms = MS → W p l e { frames := 7, cells := MC, slots := MS, locals := 123 } s m ([.ref v0, .int v1, .ref v2, .ref v3, .ref v4, .ref v5, .ref v6, .ref v7]).toArray below meth c H locs cells slots (MQ below (va_Qi K (fun u' t => Wp G u' t.heap) (Ab G)) ([.ref v0, .int v1, .ref v2, .ref v3, .ref v4, .ref v5, .ref v6, .ref v7]).toArray s MC MS (Ab G)) (F0 m 115 ls []) := by
  have hx := F.1.1
  have hb := F.1.2.1
  intro v8 v10 mc ms u H locs cells slots ls h hW hl hbc hbs
  unfold w_L_isSo_115 at h
  refine lv_iconst (v := (0 : Int32)) hx hb dL_isSo_115 (by decide) ?_
  exact t_L_isSo_116 v0 v1 v2 v3 v4 v5 v6 v7 MC MS F hr K J57 hJ57 v8 v10 (0 : Int32) mc ms u _ _ _ _ _ h hW (lv_sub hl [0, 1, 2, 3, 4, 5, 6, 7, 8, 9] rfl) hbc hbs
set_option maxHeartbeats 4000000 in
set_option maxRecDepth 100000 in
theorem t_L_isSo_57 {p : Program} {l : Launch} {e : Env} {s : State} {m : MethodId} {below : List Frame} {meth : Method} {c : Code} {G : Ctx} (v0 : Nat) (v1 : Int32) (v2 : Nat) (v3 : Nat) (v4 : Nat) (v5 : Nat) (v6 : Nat) (v7 : Nat) (MC MS : Nat) (F : Fx p l s m ([.ref v0, .int v1, .ref v2, .ref v3, .ref v4, .ref v5, .ref v6, .ref v7]).toArray meth c cL_isSo 13 RL G) (hr : meth.sig.returnType = (some .boolean)) (K : Int32 → Mem → Prop) : ∀ (n : Nat), ∀ (v8 : Int32) (v9 : Int32) (v10 : Int32) (mc ms : Nat) (u : Mem) (H : Heap) (locs : List Loc) (cells slots : Nat) (ls : Array Slot), w_L_isSo_57 G v0 v1 v2 v3 v4 v5 v6 v7 K n v8 v9 v10 mc ms u → Wd G u s H locs → lv_has ls 13 [(0, .ref v0), (1, .int v1), (2, .ref v2), (3, .ref v3), (4, .ref v4), (5, .ref v5), (6, .ref v6), (7, .ref v7), (8, .int v8), (9, .int v9), (10, .int v10)] → cells + mc = MC → slots + ms = MS → W p l e { frames := 7, cells := MC, slots := MS, locals := 123 } s m ([.ref v0, .int v1, .ref v2, .ref v3, .ref v4, .ref v5, .ref v6, .ref v7]).toArray below meth c H locs cells slots (MQ below (va_Qi K (fun u' t => Wp G u' t.heap) (Ab G)) ([.ref v0, .int v1, .ref v2, .ref v3, .ref v4, .ref v5, .ref v6, .ref v7]).toArray s MC MS (Ab G)) (F0 m 57 ls []) := by
  have hx := F.1.1
  have hb := F.1.2.1
  intro n
  induction n with
  | zero =>
    intro v8 v9 v10 mc ms u H locs cells slots ls h hW hl hbc hbs
    exact h.elim
  | succ n hJ57 =>
    intro v8 v9 v10 mc ms u H locs cells slots ls h hW hl hbc hbs
    have h : b_L_isSo_57 G v0 v1 v2 v3 v4 v5 v6 v7 K (w_L_isSo_57 G v0 v1 v2 v3 v4 v5 v6 v7 K n) v8 v9 v10 mc ms u := h
    revert h
    generalize w_L_isSo_57 G v0 v1 v2 v3 v4 v5 v6 v7 K n = J57 at hJ57 ⊢
    intro h
    unfold b_L_isSo_57 at h
    refine lv_iload hx hb dL_isSo_57 (lv_at hl 10 rfl) ?_
    refine lv_bipush (v := (8 : Int32)) hx hb dL_isSo_59 (by decide) ?_
    refine lv_icmp_ge (tgt := 124) hx hb dL_isSo_61 (by decide) (fun hc229 => ?_) (fun hc229 => ?_)
    · have h := h.1 hc229
      exact t_L_isSo_124 v0 v1 v2 v3 v4 v5 v6 v7 MC MS F hr K v8 v9 mc ms u _ _ _ _ _ h hW (lv_sub hl [0, 1, 2, 3, 4, 5, 6, 7, 8, 9] rfl) hbc hbs
    · have h := h.2 hc229
      refine lv_iload hx hb dL_isSo_64 (lv_at hl 9 rfl) ?_
      refine lv_if_eq (tgt := 124) hx hb dL_isSo_66 (by decide) (fun hc230 => ?_) (fun hc230 => ?_)
      · have h := h.1 hc230
        exact t_L_isSo_124 v0 v1 v2 v3 v4 v5 v6 v7 MC MS F hr K v8 v9 mc ms u _ _ _ _ _ h hW (lv_sub hl [0, 1, 2, 3, 4, 5, 6, 7, 8, 9] rfl) hbc hbs
      · have h := h.2 hc230
        refine lv_aload_n hx hb dL_isSo_69 rfl (lv_at hl 0 rfl) ?_
        refine lv_iload hx hb dL_isSo_70 (lv_at hl 10 rfl) ?_
        obtain ⟨c233, b234, h1, h2, h⟩ := h
        have hf1 := bdf hbc h1
        have hf2 := bdf hbs h2
        obtain ⟨hob, h⟩ := h
        refine cX (runX (n := 1) (As := [.int v10]) (rest := []) F hW (c_X5_purse F.2.2.2 G v0 v10 c233 b234 u _ _ h) hob (ci := 6) rfl q_367 q_368 q_369 q_2 q_370 rfl (by decide +kernel) ⟨Nat.le_of_ble_eq_true rfl, Nat.le_of_ble_eq_true rfl⟩ dL_isSo_72 rfl hl.1 (Nat.le_of_ble_eq_true rfl) ⟨hf1, hf2⟩) hW (fun r232 u231 h9 H locs hW => ?_) (fun E u231 h9 H locs hW => ?_)
        · replace h := h9
          clear h9
          replace hbc := bdg hbc h1
          replace hbs := bdg hbs h2
          clear h1 h2 hf1 hf2
          refine lv_aload_n hx hb dL_isSo_75 rfl (lv_at hl 2 rfl) ?_
          refine lv_bipush (v := (6 : Int32)) hx hb dL_isSo_76 (by decide) ?_
          refine lv_iload hx hb dL_isSo_78 (lv_at hl 10 rfl) ?_
          refine lv_imul hx hb dL_isSo_80 ?_
          refine rIald F hW h.1 h.2.1 dL_isSo_81 ?_
          replace h := h.2.2
          refine lv_icmp_ne (tgt := 115) hx hb dL_isSo_82 (by decide) (fun hc235 => ?_) (fun hc235 => ?_)
          · have h := h.2 hc235
            exact t_L_isSo_115 v0 v1 v2 v3 v4 v5 v6 v7 MC MS F hr K J57 hJ57 v8 v10 (mc - c233) (ms - b234) u231 _ _ _ _ _ h hW (lv_sub hl [0, 1, 2, 3, 4, 5, 6, 7, 8, 10] rfl) hbc hbs
          · have h := h.1 hc235
            refine lv_aload_n hx hb dL_isSo_85 rfl (lv_at hl 0 rfl) ?_
            refine lv_iload hx hb dL_isSo_86 (lv_at hl 10 rfl) ?_
            refine lv_iload_n hx hb dL_isSo_88 rfl (lv_at hl 1 rfl) ?_
            refine lv_bipush (v := (8 : Int32)) hx hb dL_isSo_89 (by decide) ?_
            refine cI (runS (n := 2) (As := [.int v1, .int (8 : Int32)]) (rest := [.int v10, .ref v0]) F hW (c_L_low F.2.2.2 G v1 (8 : Int32) u231 _ h) q_72 q_73 q_68 q_74 (by decide +kernel) ⟨Nat.le_of_ble_eq_true rfl, Nat.le_of_ble_eq_true rfl⟩ dL_isSo_91 rfl hl.1 (Nat.le_of_ble_eq_true rfl) ⟨Nat.le.intro hbc, Nat.le.intro hbs⟩) hW (fun r237 u236 h9 H locs hW => ?_)
            replace h := h9
            clear h9
            obtain ⟨c240, b241, h1, h2, h⟩ := h
            have hf1 := bdf hbc h1
            have hf2 := bdf hbs h2
            obtain ⟨hob, h⟩ := h
            refine cX (runX (n := 2) (As := [.int v10, .int r237]) (rest := []) F hW (c_X5_way F.2.2.2 G v0 v10 r237 c240 b241 u236 _ _ h) hob (ci := 6) rfl q_371 q_372 q_373 q_2 q_374 rfl (by decide +kernel) ⟨Nat.le_of_ble_eq_true rfl, Nat.le_of_ble_eq_true rfl⟩ dL_isSo_94 rfl hl.1 (Nat.le_of_ble_eq_true rfl) ⟨hf1, hf2⟩) hW (fun r239 u238 h9 H locs hW => ?_) (fun E u238 h9 H locs hW => ?_)
            · replace h := h9
              clear h9
              replace hbc := bdg hbc h1
              replace hbs := bdg hbs h2
              clear h1 h2 hf1 hf2
              refine lv_iload hx hb dL_isSo_97 (lv_at hl 10 rfl) ?_
              refine lv_iload_n hx hb dL_isSo_99 rfl (lv_at hl 1 rfl) ?_
              refine lv_bipush (v := (8 : Int32)) hx hb dL_isSo_100 (by decide) ?_
              refine cI (runS (n := 2) (As := [.int v1, .int (8 : Int32)]) (rest := [.int v10, .int r239]) F hW (c_L_low F.2.2.2 G v1 (8 : Int32) u238 _ h) q_72 q_73 q_68 q_74 (by decide +kernel) ⟨Nat.le_of_ble_eq_true rfl, Nat.le_of_ble_eq_true rfl⟩ dL_isSo_102 rfl hl.1 (Nat.le_of_ble_eq_true rfl) ⟨Nat.le.intro hbc, Nat.le.intro hbs⟩) hW (fun r243 u242 h9 H locs hW => ?_)
              replace h := h9
              clear h9
              refine cI (runS (n := 2) (As := [.int v10, .int r243]) (rest := [.int r239]) F hW (c_L_way F.2.2.2 G v10 r243 u242 _ h) q_332 q_333 q_68 q_334 (by decide +kernel) ⟨Nat.le_of_ble_eq_true rfl, Nat.le_of_ble_eq_true rfl⟩ dL_isSo_105 rfl hl.1 (Nat.le_of_ble_eq_true rfl) ⟨Nat.le.intro hbc, Nat.le.intro hbs⟩) hW (fun r245 u244 h9 H locs hW => ?_)
              replace h := h9
              clear h9
              refine lv_icmp_ne (tgt := 115) hx hb dL_isSo_108 (by decide) (fun hc246 => ?_) (fun hc246 => ?_)
              · have h := h.2 hc246
                exact t_L_isSo_115 v0 v1 v2 v3 v4 v5 v6 v7 MC MS F hr K J57 hJ57 v8 v10 ((mc - c233) - c240) ((ms - b234) - b241) u244 _ _ _ _ _ h hW (lv_sub hl [0, 1, 2, 3, 4, 5, 6, 7, 8, 10] rfl) hbc hbs
              · have h := h.1 hc246
                refine lv_iconst (v := (1 : Int32)) hx hb dL_isSo_111 (by decide) ?_
                refine lv_goto (tgt := 116) hx hb dL_isSo_112 (by decide) ?_
                exact t_L_isSo_116 v0 v1 v2 v3 v4 v5 v6 v7 MC MS F hr K J57 hJ57 v8 v10 (1 : Int32) ((mc - c233) - c240) ((ms - b234) - b241) u244 _ _ _ _ _ h hW (lv_sub hl [0, 1, 2, 3, 4, 5, 6, 7, 8, 10] rfl) hbc hbs
            · exact h9.elim
        · exact h9.elim
set_option maxHeartbeats 4000000 in
set_option maxRecDepth 100000 in
theorem t_L_isSo_52 {p : Program} {l : Launch} {e : Env} {s : State} {m : MethodId} {below : List Frame} {meth : Method} {c : Code} {G : Ctx} (v0 : Nat) (v1 : Int32) (v2 : Nat) (v3 : Nat) (v4 : Nat) (v5 : Nat) (v6 : Nat) (v7 : Nat) (MC MS : Nat) (F : Fx p l s m ([.ref v0, .int v1, .ref v2, .ref v3, .ref v4, .ref v5, .ref v6, .ref v7]).toArray meth c cL_isSo 13 RL G) (hr : meth.sig.returnType = (some .boolean)) (K : Int32 → Mem → Prop) : ∀ (v8 : Int32) (s0 : Int32) (mc ms : Nat) (u : Mem) (H : Heap) (locs : List Loc) (cells slots : Nat) (ls : Array Slot), w_L_isSo_52 G v0 v1 v2 v3 v4 v5 v6 v7 K v8 s0 mc ms u → Wd G u s H locs → lv_has ls 13 [(0, .ref v0), (1, .int v1), (2, .ref v2), (3, .ref v3), (4, .ref v4), (5, .ref v5), (6, .ref v6), (7, .ref v7), (8, .int v8)] → cells + mc = MC → slots + ms = MS → W p l e { frames := 7, cells := MC, slots := MS, locals := 123 } s m ([.ref v0, .int v1, .ref v2, .ref v3, .ref v4, .ref v5, .ref v6, .ref v7]).toArray below meth c H locs cells slots (MQ below (va_Qi K (fun u' t => Wp G u' t.heap) (Ab G)) ([.ref v0, .int v1, .ref v2, .ref v3, .ref v4, .ref v5, .ref v6, .ref v7]).toArray s MC MS (Ab G)) (F0 m 52 ls [.int s0]) := by
  have hx := F.1.1
  have hb := F.1.2.1
  intro v8 s0 mc ms u H locs cells slots ls h hW hl hbc hbs
  unfold w_L_isSo_52 at h
  refine lv_istore (lv' := [(9, .int s0), (0, .ref v0), (1, .int v1), (2, .ref v2), (3, .ref v3), (4, .ref v4), (5, .ref v5), (6, .ref v6), (7, .ref v7), (8, .int v8)]) hx hb dL_isSo_52 hl (by decide) rfl (fun ls hl9 => ?_)
  replace hl := hl9
  clear hl9
  refine lv_iconst (v := (0 : Int32)) hx hb dL_isSo_54 (by decide) ?_
  refine lv_istore (lv' := [(10, .int (0 : Int32)), (9, .int s0), (0, .ref v0), (1, .int v1), (2, .ref v2), (3, .ref v3), (4, .ref v4), (5, .ref v5), (6, .ref v6), (7, .ref v7), (8, .int v8)]) hx hb dL_isSo_55 hl (by decide) rfl (fun ls hl9 => ?_)
  replace hl := hl9
  clear hl9
  obtain ⟨n, h⟩ := h
  exact t_L_isSo_57 v0 v1 v2 v3 v4 v5 v6 v7 MC MS F hr K n v8 s0 (0 : Int32) mc ms u _ _ _ _ _ h hW (lv_sub hl [2, 3, 4, 5, 6, 7, 8, 9, 10, 1, 0] rfl) hbc hbs
set_option maxHeartbeats 4000000 in
set_option maxRecDepth 100000 in
theorem t_L_isSo_51 {p : Program} {l : Launch} {e : Env} {s : State} {m : MethodId} {below : List Frame} {meth : Method} {c : Code} {G : Ctx} (v0 : Nat) (v1 : Int32) (v2 : Nat) (v3 : Nat) (v4 : Nat) (v5 : Nat) (v6 : Nat) (v7 : Nat) (MC MS : Nat) (F : Fx p l s m ([.ref v0, .int v1, .ref v2, .ref v3, .ref v4, .ref v5, .ref v6, .ref v7]).toArray meth c cL_isSo 13 RL G) (hr : meth.sig.returnType = (some .boolean)) (K : Int32 → Mem → Prop) : ∀ (v8 : Int32) (mc ms : Nat) (u : Mem) (H : Heap) (locs : List Loc) (cells slots : Nat) (ls : Array Slot), w_L_isSo_51 G v0 v1 v2 v3 v4 v5 v6 v7 K v8 mc ms u → Wd G u s H locs → lv_has ls 13 [(0, .ref v0), (1, .int v1), (2, .ref v2), (3, .ref v3), (4, .ref v4), (5, .ref v5), (6, .ref v6), (7, .ref v7), (8, .int v8)] → cells + mc = MC → slots + ms = MS → W p l e { frames := 7, cells := MC, slots := MS, locals := 123 } s m ([.ref v0, .int v1, .ref v2, .ref v3, .ref v4, .ref v5, .ref v6, .ref v7]).toArray below meth c H locs cells slots (MQ below (va_Qi K (fun u' t => Wp G u' t.heap) (Ab G)) ([.ref v0, .int v1, .ref v2, .ref v3, .ref v4, .ref v5, .ref v6, .ref v7]).toArray s MC MS (Ab G)) (F0 m 51 ls []) := by
  have hx := F.1.1
  have hb := F.1.2.1
  intro v8 mc ms u H locs cells slots ls h hW hl hbc hbs
  unfold w_L_isSo_51 at h
  refine lv_iconst (v := (0 : Int32)) hx hb dL_isSo_51 (by decide) ?_
  exact t_L_isSo_52 v0 v1 v2 v3 v4 v5 v6 v7 MC MS F hr K v8 (0 : Int32) mc ms u _ _ _ _ _ h hW (lv_sub hl [0, 1, 2, 3, 4, 5, 6, 7, 8] rfl) hbc hbs
set_option maxHeartbeats 4000000 in
set_option maxRecDepth 100000 in
theorem c_L_isSo {l : Launch} (hst : l.stackTraces = false) (G : Ctx) (v0 : Nat) (v1 : Int32) (v2 : Nat) (v3 : Nat) (v4 : Nat) (v5 : Nat) (v6 : Nat) (v7 : Nat) (MC MS : Nat) (u : Mem) (K : Int32 → Mem → Prop) (h : w_L_isSo G v0 v1 v2 v3 v4 v5 v6 v7 MC MS u K) : CtI l yL_isSo (.code yL_isSo cL_isSo 13 (some .boolean)) 7 123 MC MS G [.ref v0, .int v1, .ref v2, .ref v3, .ref v4, .ref v5, .ref v6, .ref v7] u K := by
  refine entM (by first | decide | decide +kernel) hst (by first | decide | exact Nat.le_of_ble_eq_true rfl) (fun p e s m below meth c ls F hr hnm hW hl => ?_)
  have F : Fx p l s m ([.ref v0, .int v1, .ref v2, .ref v3, .ref v4, .ref v5, .ref v6, .ref v7]).toArray meth c cL_isSo 13 RL G := F
  have hnm : meth.name = "isSo" := hnm
  have hl : lv_has ls 13 [(0, .ref v0), (1, .int v1), (2, .ref v2), (3, .ref v3), (4, .ref v4), (5, .ref v5), (6, .ref v6), (7, .ref v7)] := hl
  have hx := F.1.1
  have hb := F.1.2.1
  have hbc : 0 + MC = MC := Nat.zero_add _
  have hbs : 0 + MS = MS := Nat.zero_add _
  unfold w_L_isSo at h
  refine lv_iconst (v := (0 : Int32)) hx hb dL_isSo_0 (by decide) ?_
  refine lv_istore (lv' := [(8, .int (0 : Int32)), (0, .ref v0), (1, .int v1), (2, .ref v2), (3, .ref v3), (4, .ref v4), (5, .ref v5), (6, .ref v6), (7, .ref v7)]) hx hb dL_isSo_1 hl (by decide) rfl (fun ls hl9 => ?_)
  replace hl := hl9
  clear hl9
  refine lv_aload_n hx hb dL_isSo_3 rfl (lv_at hl 1 rfl) ?_
  obtain ⟨hob, h⟩ := h
  refine cI (runV (n := 0) (As := []) (rest := []) F hW (c_X5_day F.2.2.2 G v0 u _ h) hob (ci := 6) rfl q_347 q_348 q_349 q_2 q_350 rfl (by decide +kernel) ⟨Nat.le_of_ble_eq_true rfl, Nat.le_of_ble_eq_true rfl⟩ dL_isSo_4 rfl hl.1 (Nat.le_of_ble_eq_true rfl) ⟨Nat.le.intro hbc, Nat.le.intro hbs⟩) hW (fun r2 u1 h9 H locs hW => ?_)
  replace h := h9
  clear h9
  refine lv_aload hx hb dL_isSo_7 (lv_at hl 8 rfl) ?_
  refine lv_iconst (v := (0 : Int32)) hx hb dL_isSo_9 (by decide) ?_
  refine rIald F hW h.1 h.2.1 dL_isSo_10 ?_
  replace h := h.2.2
  refine lv_icmp_ne (tgt := 51) hx hb dL_isSo_11 (by decide) (fun hc3 => ?_) (fun hc3 => ?_)
  · have h := h.2 hc3
    exact t_L_isSo_51 v0 v1 v2 v3 v4 v5 v6 v7 MC MS F hr K (0 : Int32) MC MS u1 _ _ _ _ _ h hW (lv_sub hl [1, 2, 3, 4, 5, 6, 7, 8, 0] rfl) hbc hbs
  · have h := h.1 hc3
    refine lv_aload_n hx hb dL_isSo_14 rfl (lv_at hl 1 rfl) ?_
    obtain ⟨hob, h⟩ := h
    refine cI (runV (n := 0) (As := []) (rest := []) F hW (c_X5_minute F.2.2.2 G v0 u1 _ h) hob (ci := 6) rfl q_351 q_352 q_353 q_2 q_354 rfl (by decide +kernel) ⟨Nat.le_of_ble_eq_true rfl, Nat.le_of_ble_eq_true rfl⟩ dL_isSo_15 rfl hl.1 (Nat.le_of_ble_eq_true rfl) ⟨Nat.le.intro hbc, Nat.le.intro hbs⟩) hW (fun r5 u4 h9 H locs hW => ?_)
    replace h := h9
    clear h9
    refine lv_aload hx hb dL_isSo_18 (lv_at hl 8 rfl) ?_
    refine lv_iconst (v := (1 : Int32)) hx hb dL_isSo_20 (by decide) ?_
    refine rIald F hW h.1 h.2.1 dL_isSo_21 ?_
    replace h := h.2.2
    refine lv_icmp_ne (tgt := 51) hx hb dL_isSo_22 (by decide) (fun hc6 => ?_) (fun hc6 => ?_)
    · have h := h.2 hc6
      exact t_L_isSo_51 v0 v1 v2 v3 v4 v5 v6 v7 MC MS F hr K (0 : Int32) MC MS u4 _ _ _ _ _ h hW (lv_sub hl [1, 2, 3, 4, 5, 6, 7, 8, 0] rfl) hbc hbs
    · have h := h.1 hc6
      refine lv_aload_n hx hb dL_isSo_25 rfl (lv_at hl 1 rfl) ?_
      obtain ⟨hob, h⟩ := h
      refine cI (runV (n := 0) (As := []) (rest := []) F hW (c_X5_walks F.2.2.2 G v0 u4 _ h) hob (ci := 6) rfl q_355 q_356 q_357 q_2 q_358 rfl (by decide +kernel) ⟨Nat.le_of_ble_eq_true rfl, Nat.le_of_ble_eq_true rfl⟩ dL_isSo_26 rfl hl.1 (Nat.le_of_ble_eq_true rfl) ⟨Nat.le.intro hbc, Nat.le.intro hbs⟩) hW (fun r8 u7 h9 H locs hW => ?_)
      replace h := h9
      clear h9
      refine lv_aload hx hb dL_isSo_29 (lv_at hl 8 rfl) ?_
      refine lv_iconst (v := (2 : Int32)) hx hb dL_isSo_31 (by decide) ?_
      refine rIald F hW h.1 h.2.1 dL_isSo_32 ?_
      replace h := h.2.2
      refine lv_icmp_ne (tgt := 51) hx hb dL_isSo_33 (by decide) (fun hc9 => ?_) (fun hc9 => ?_)
      · have h := h.2 hc9
        exact t_L_isSo_51 v0 v1 v2 v3 v4 v5 v6 v7 MC MS F hr K (0 : Int32) MC MS u7 _ _ _ _ _ h hW (lv_sub hl [1, 2, 3, 4, 5, 6, 7, 8, 0] rfl) hbc hbs
      · have h := h.1 hc9
        refine lv_aload_n hx hb dL_isSo_36 rfl (lv_at hl 1 rfl) ?_
        obtain ⟨hob, h⟩ := h
        refine cI (runV (n := 0) (As := []) (rest := []) F hW (c_X5_taken F.2.2.2 G v0 u7 _ h) hob (ci := 6) rfl q_359 q_360 q_361 q_2 q_362 rfl (by decide +kernel) ⟨Nat.le_of_ble_eq_true rfl, Nat.le_of_ble_eq_true rfl⟩ dL_isSo_37 rfl hl.1 (Nat.le_of_ble_eq_true rfl) ⟨Nat.le.intro hbc, Nat.le.intro hbs⟩) hW (fun r11 u10 h9 H locs hW => ?_)
        replace h := h9
        clear h9
        refine lv_aload hx hb dL_isSo_40 (lv_at hl 8 rfl) ?_
        refine lv_iconst (v := (3 : Int32)) hx hb dL_isSo_42 (by decide) ?_
        refine rIald F hW h.1 h.2.1 dL_isSo_43 ?_
        replace h := h.2.2
        refine lv_icmp_ne (tgt := 51) hx hb dL_isSo_44 (by decide) (fun hc12 => ?_) (fun hc12 => ?_)
        · have h := h.2 hc12
          exact t_L_isSo_51 v0 v1 v2 v3 v4 v5 v6 v7 MC MS F hr K (0 : Int32) MC MS u10 _ _ _ _ _ h hW (lv_sub hl [1, 2, 3, 4, 5, 6, 7, 8, 0] rfl) hbc hbs
        · have h := h.1 hc12
          refine lv_iconst (v := (1 : Int32)) hx hb dL_isSo_47 (by decide) ?_
          refine lv_goto (tgt := 52) hx hb dL_isSo_48 (by decide) ?_
          exact t_L_isSo_52 v0 v1 v2 v3 v4 v5 v6 v7 MC MS F hr K (0 : Int32) (1 : Int32) MC MS u10 _ _ _ _ _ h hW (lv_sub hl [1, 2, 3, 4, 5, 6, 7, 8, 0] rfl) hbc hbs
set_option maxHeartbeats 4000000 in
set_option maxRecDepth 100000 in
theorem t_L_sends_95 {p : Program} {l : Launch} {e : Env} {s : State} {m : MethodId} {below : List Frame} {meth : Method} {c : Code} {G : Ctx} (v0 : Int32) (v1 : Nat) (v2 : Nat) (F : Fx p l s m ([.int v0, .ref v1, .ref v2]).toArray meth c cL_sends 8 RL G) (hr : meth.sig.returnType = none) (K : Mem → Prop) (J8 : Int32 → Int32 → Int32 → Mem → Prop) (hJ8 : ∀ (v3 : Int32) (v4 : Int32) (v5 : Int32) (u : Mem) (H : Heap) (locs : List Loc) (ls : Array Slot), J8 v3 v4 v5 u → Wd G u s H locs → lv_has ls 8 [(0, .int v0), (1, .ref v1), (2, .ref v2), (3, .int v3), (4, .int v4), (5, .int v5)] → W p l e { frames := 1, cells := 0, slots := 0, locals := 22 } s m ([.int v0, .ref v1, .ref v2]).toArray below meth c H locs 0 0 (MQ below (va_Qv K (fun u' t => Wp G u' t.heap) (Ab G)) ([.int v0, .ref v1, .ref v2]).toArray s 0 0 (Ab G)) (F0 m 8 ls [])) : ∀ (v3 : Int32) (v5 : Int32) (s0 : Int32) (u : Mem) (H : Heap) (locs : List Loc) (ls : Array Slot), w_L_sends_95 G v0 v1 v2 K J8 v3 v5 s0 u → Wd G u s H locs → lv_has ls 8 [(0, .int v0), (1, .ref v1), (2, .ref v2), (3, .int v3), (5, .int v5)] → W p l e { frames := 1, cells := 0, slots := 0, locals := 22 } s m ([.int v0, .ref v1, .ref v2]).toArray below meth c H locs 0 0 (MQ below (va_Qv K (fun u' t => Wp G u' t.heap) (Ab G)) ([.int v0, .ref v1, .ref v2]).toArray s 0 0 (Ab G)) (F0 m 95 ls [.int s0]) := by
  have hx := F.1.1
  have hb := F.1.2.1
  intro v3 v5 s0 u H locs ls h hW hl
  unfold w_L_sends_95 at h
  refine lv_istore (lv' := [(4, .int s0), (0, .int v0), (1, .ref v1), (2, .ref v2), (3, .int v3), (5, .int v5)]) hx hb dL_sends_95 hl (by decide) rfl (fun ls hl9 => ?_)
  replace hl := hl9
  clear hl9
  refine lv_iinc (v := (v5 + (-1))) (lv' := [(5, .int (v5 + (-1))), (4, .int s0), (0, .int v0), (1, .ref v1), (2, .ref v2), (3, .int v3)]) hx hb dL_sends_97 hl (k := 5) rfl rfl (by decide) rfl (fun ls hl9 => ?_)
  replace hl := hl9
  clear hl9
  refine lv_goto (tgt := 8) hx hb dL_sends_100 (by decide) ?_
  exact hJ8 v3 s0 (v5 + (-1)) u _ _ _ h hW (lv_sub hl [2, 3, 4, 5, 1, 0] rfl)
set_option maxHeartbeats 4000000 in
set_option maxRecDepth 100000 in
theorem t_L_sends_82 {p : Program} {l : Launch} {e : Env} {s : State} {m : MethodId} {below : List Frame} {meth : Method} {c : Code} {G : Ctx} (v0 : Int32) (v1 : Nat) (v2 : Nat) (F : Fx p l s m ([.int v0, .ref v1, .ref v2]).toArray meth c cL_sends 8 RL G) (hr : meth.sig.returnType = none) (K : Mem → Prop) (J8 : Int32 → Int32 → Int32 → Mem → Prop) (hJ8 : ∀ (v3 : Int32) (v4 : Int32) (v5 : Int32) (u : Mem) (H : Heap) (locs : List Loc) (ls : Array Slot), J8 v3 v4 v5 u → Wd G u s H locs → lv_has ls 8 [(0, .int v0), (1, .ref v1), (2, .ref v2), (3, .int v3), (4, .int v4), (5, .int v5)] → W p l e { frames := 1, cells := 0, slots := 0, locals := 22 } s m ([.int v0, .ref v1, .ref v2]).toArray below meth c H locs 0 0 (MQ below (va_Qv K (fun u' t => Wp G u' t.heap) (Ab G)) ([.int v0, .ref v1, .ref v2]).toArray s 0 0 (Ab G)) (F0 m 8 ls [])) : ∀ (v4 : Int32) (v5 : Int32) (v6 : Int32) (v7 : Int32) (s0 : Int32) (u : Mem) (H : Heap) (locs : List Loc) (ls : Array Slot), w_L_sends_82 G v0 v1 v2 K J8 v4 v5 v6 v7 s0 u → Wd G u s H locs → lv_has ls 8 [(0, .int v0), (1, .ref v1), (2, .ref v2), (4, .int v4), (5, .int v5), (6, .int v6), (7, .int v7)] → W p l e { frames := 1, cells := 0, slots := 0, locals := 22 } s m ([.int v0, .ref v1, .ref v2]).toArray below meth c H locs 0 0 (MQ below (va_Qv K (fun u' t => Wp G u' t.heap) (Ab G)) ([.int v0, .ref v1, .ref v2]).toArray s 0 0 (Ab G)) (F0 m 82 ls [.int s0]) := by
  have hx := F.1.1
  have hb := F.1.2.1
  intro v4 v5 v6 v7 s0 u H locs ls h hW hl
  unfold w_L_sends_82 at h
  refine lv_istore_n (lv' := [(3, .int s0), (0, .int v0), (1, .ref v1), (2, .ref v2), (4, .int v4), (5, .int v5), (6, .int v6), (7, .int v7)]) hx hb dL_sends_82 rfl hl (by decide) rfl (fun ls hl9 => ?_)
  replace hl := hl9
  clear hl9
  refine lv_iload hx hb dL_sends_83 (lv_at hl 7 rfl) ?_
  refine lv_if_eq (tgt := 93) hx hb dL_sends_85 (by decide) (fun hc23 => ?_) (fun hc23 => ?_)
  · have h := h.1 hc23
    refine lv_iload hx hb dL_sends_93 (lv_at hl 4 rfl) ?_
    exact t_L_sends_95 v0 v1 v2 F hr K J8 hJ8 s0 v5 v4 u _ _ _ h hW (lv_sub hl [1, 2, 3, 0, 5] rfl)
  · have h := h.2 hc23
    refine lv_iload hx hb dL_sends_88 (lv_at hl 6 rfl) ?_
    refine lv_goto (tgt := 95) hx hb dL_sends_90 (by decide) ?_
    exact t_L_sends_95 v0 v1 v2 F hr K J8 hJ8 s0 v5 v6 u _ _ _ h hW (lv_sub hl [1, 2, 3, 0, 5] rfl)
set_option maxHeartbeats 4000000 in
set_option maxRecDepth 100000 in
theorem t_L_sends_69 {p : Program} {l : Launch} {e : Env} {s : State} {m : MethodId} {below : List Frame} {meth : Method} {c : Code} {G : Ctx} (v0 : Int32) (v1 : Nat) (v2 : Nat) (F : Fx p l s m ([.int v0, .ref v1, .ref v2]).toArray meth c cL_sends 8 RL G) (hr : meth.sig.returnType = none) (K : Mem → Prop) (J8 : Int32 → Int32 → Int32 → Mem → Prop) (hJ8 : ∀ (v3 : Int32) (v4 : Int32) (v5 : Int32) (u : Mem) (H : Heap) (locs : List Loc) (ls : Array Slot), J8 v3 v4 v5 u → Wd G u s H locs → lv_has ls 8 [(0, .int v0), (1, .ref v1), (2, .ref v2), (3, .int v3), (4, .int v4), (5, .int v5)] → W p l e { frames := 1, cells := 0, slots := 0, locals := 22 } s m ([.int v0, .ref v1, .ref v2]).toArray below meth c H locs 0 0 (MQ below (va_Qv K (fun u' t => Wp G u' t.heap) (Ab G)) ([.int v0, .ref v1, .ref v2]).toArray s 0 0 (Ab G)) (F0 m 8 ls [])) : ∀ (v3 : Int32) (v4 : Int32) (v5 : Int32) (v6 : Int32) (s0 : Int32) (u : Mem) (H : Heap) (locs : List Loc) (ls : Array Slot), w_L_sends_69 G v0 v1 v2 K J8 v3 v4 v5 v6 s0 u → Wd G u s H locs → lv_has ls 8 [(0, .int v0), (1, .ref v1), (2, .ref v2), (3, .int v3), (4, .int v4), (5, .int v5), (6, .int v6)] → W p l e { frames := 1, cells := 0, slots := 0, locals := 22 } s m ([.int v0, .ref v1, .ref v2]).toArray below meth c H locs 0 0 (MQ below (va_Qv K (fun u' t => Wp G u' t.heap) (Ab G)) ([.int v0, .ref v1, .ref v2]).toArray s 0 0 (Ab G)) (F0 m 69 ls [.int s0]) := by
  have hx := F.1.1
  have hb := F.1.2.1
  intro v3 v4 v5 v6 s0 u H locs ls h hW hl
  unfold w_L_sends_69 at h
  refine lv_istore (lv' := [(7, .int s0), (0, .int v0), (1, .ref v1), (2, .ref v2), (3, .int v3), (4, .int v4), (5, .int v5), (6, .int v6)]) hx hb dL_sends_69 hl (by decide) rfl (fun ls hl9 => ?_)
  replace hl := hl9
  clear hl9
  refine lv_iload hx hb dL_sends_71 (lv_at hl 0 rfl) ?_
  refine lv_if_eq (tgt := 81) hx hb dL_sends_73 (by decide) (fun hc24 => ?_) (fun hc24 => ?_)
  · have h := h.1 hc24
    refine lv_iload_n hx hb dL_sends_81 rfl (lv_at hl 4 rfl) ?_
    exact t_L_sends_82 v0 v1 v2 F hr K J8 hJ8 v4 v5 v6 s0 v3 u _ _ _ h hW (lv_sub hl [1, 2, 3, 5, 6, 7, 0] rfl)
  · have h := h.2 hc24
    refine lv_iload hx hb dL_sends_76 (lv_at hl 6 rfl) ?_
    refine lv_goto (tgt := 82) hx hb dL_sends_78 (by decide) ?_
    exact t_L_sends_82 v0 v1 v2 F hr K J8 hJ8 v4 v5 v6 s0 v5 u _ _ _ h hW (lv_sub hl [1, 2, 3, 5, 6, 7, 0] rfl)
set_option maxHeartbeats 4000000 in
set_option maxRecDepth 100000 in
theorem t_L_sends_68 {p : Program} {l : Launch} {e : Env} {s : State} {m : MethodId} {below : List Frame} {meth : Method} {c : Code} {G : Ctx} (v0 : Int32) (v1 : Nat) (v2 : Nat) (F : Fx p l s m ([.int v0, .ref v1, .ref v2]).toArray meth c cL_sends 8 RL G) (hr : meth.sig.returnType = none) (K : Mem → Prop) (J8 : Int32 → Int32 → Int32 → Mem → Prop) (hJ8 : ∀ (v3 : Int32) (v4 : Int32) (v5 : Int32) (u : Mem) (H : Heap) (locs : List Loc) (ls : Array Slot), J8 v3 v4 v5 u → Wd G u s H locs → lv_has ls 8 [(0, .int v0), (1, .ref v1), (2, .ref v2), (3, .int v3), (4, .int v4), (5, .int v5)] → W p l e { frames := 1, cells := 0, slots := 0, locals := 22 } s m ([.int v0, .ref v1, .ref v2]).toArray below meth c H locs 0 0 (MQ below (va_Qv K (fun u' t => Wp G u' t.heap) (Ab G)) ([.int v0, .ref v1, .ref v2]).toArray s 0 0 (Ab G)) (F0 m 8 ls [])) : ∀ (v3 : Int32) (v4 : Int32) (v5 : Int32) (v6 : Int32) (u : Mem) (H : Heap) (locs : List Loc) (ls : Array Slot), w_L_sends_68 G v0 v1 v2 K J8 v3 v4 v5 v6 u → Wd G u s H locs → lv_has ls 8 [(0, .int v0), (1, .ref v1), (2, .ref v2), (3, .int v3), (4, .int v4), (5, .int v5), (6, .int v6)] → W p l e { frames := 1, cells := 0, slots := 0, locals := 22 } s m ([.int v0, .ref v1, .ref v2]).toArray below meth c H locs 0 0 (MQ below (va_Qv K (fun u' t => Wp G u' t.heap) (Ab G)) ([.int v0, .ref v1, .ref v2]).toArray s 0 0 (Ab G)) (F0 m 68 ls []) := by
  have hx := F.1.1
  have hb := F.1.2.1
  intro v3 v4 v5 v6 u H locs ls h hW hl
  unfold w_L_sends_68 at h
  refine lv_iconst (v := (0 : Int32)) hx hb dL_sends_68 (by decide) ?_
  exact t_L_sends_69 v0 v1 v2 F hr K J8 hJ8 v3 v4 v5 v6 (0 : Int32) u _ _ _ h hW (lv_sub hl [0, 1, 2, 3, 4, 5, 6] rfl)
set_option maxHeartbeats 4000000 in
set_option maxRecDepth 100000 in
theorem t_L_sends_8 {p : Program} {l : Launch} {e : Env} {s : State} {m : MethodId} {below : List Frame} {meth : Method} {c : Code} {G : Ctx} (v0 : Int32) (v1 : Nat) (v2 : Nat) (F : Fx p l s m ([.int v0, .ref v1, .ref v2]).toArray meth c cL_sends 8 RL G) (hr : meth.sig.returnType = none) (K : Mem → Prop) : ∀ (n : Nat), ∀ (v3 : Int32) (v4 : Int32) (v5 : Int32) (u : Mem) (H : Heap) (locs : List Loc) (ls : Array Slot), w_L_sends_8 G v0 v1 v2 K n v3 v4 v5 u → Wd G u s H locs → lv_has ls 8 [(0, .int v0), (1, .ref v1), (2, .ref v2), (3, .int v3), (4, .int v4), (5, .int v5)] → W p l e { frames := 1, cells := 0, slots := 0, locals := 22 } s m ([.int v0, .ref v1, .ref v2]).toArray below meth c H locs 0 0 (MQ below (va_Qv K (fun u' t => Wp G u' t.heap) (Ab G)) ([.int v0, .ref v1, .ref v2]).toArray s 0 0 (Ab G)) (F0 m 8 ls []) := by
  have hx := F.1.1
  have hb := F.1.2.1
  intro n
  induction n with
  | zero =>
    intro v3 v4 v5 u H locs ls h hW hl
    exact h.elim
  | succ n hJ8 =>
    intro v3 v4 v5 u H locs ls h hW hl
    have h : b_L_sends_8 G v0 v1 v2 K (w_L_sends_8 G v0 v1 v2 K n) v3 v4 v5 u := h
    revert h
    generalize w_L_sends_8 G v0 v1 v2 K n = J8 at hJ8 ⊢
    intro h
    unfold b_L_sends_8 at h
    refine lv_iload hx hb dL_sends_8 (lv_at hl 5 rfl) ?_
    refine lv_if_lt (tgt := 103) hx hb dL_sends_10 (by decide) (fun hc25 => ?_) (fun hc25 => ?_)
    · have h := h.1 hc25
      refine lv_iload_n hx hb dL_sends_103 rfl (lv_at hl 3 rfl) ?_
      refine lv_if_lt (tgt := 133) hx hb dL_sends_104 (by decide) (fun hc26 => ?_) (fun hc26 => ?_)
      · have h := h.1 hc26
        exact retV F hr hW h dL_sends_133
      · have h := h.2 hc26
        refine lv_aload_n hx hb dL_sends_107 rfl (lv_at hl 1 rfl) ?_
        refine lv_iconst (v := (3 : Int32)) hx hb dL_sends_108 (by decide) ?_
        refine lv_iload_n hx hb dL_sends_109 rfl (lv_at hl 3 rfl) ?_
        refine lv_imul hx hb dL_sends_110 ?_
        refine lv_iconst (v := (2 : Int32)) hx hb dL_sends_111 (by decide) ?_
        refine lv_iadd hx hb dL_sends_112 ?_
        refine lv_iload_n hx hb dL_sends_113 rfl (lv_at hl 0 rfl) ?_
        refine rIast F hW h.1 h.2.1 dL_sends_114 (fun H locs hW => ?_)
        replace h := h.2.2
        obtain ⟨u27, eu⟩ : ∃ z, z = setA u v1 ((((3 : Int32) * v3) + (2 : Int32)).toNatClampNeg) v0 := ⟨_, rfl⟩
        rw [← eu] at hW
        replace h := h u27 eu
        clear eu
        refine lv_aload_n hx hb dL_sends_115 rfl (lv_at hl 2 rfl) ?_
        refine lv_bipush (v := (6 : Int32)) hx hb dL_sends_116 (by decide) ?_
        refine lv_iload_n hx hb dL_sends_118 rfl (lv_at hl 0 rfl) ?_
        refine lv_imul hx hb dL_sends_119 ?_
        refine lv_iconst (v := (2 : Int32)) hx hb dL_sends_120 (by decide) ?_
        refine lv_iadd hx hb dL_sends_121 ?_
        refine lv_iconst (v := (1 : Int32)) hx hb dL_sends_122 (by decide) ?_
        refine rIast F hW h.1 h.2.1 dL_sends_123 (fun H locs hW => ?_)
        replace h := h.2.2
        obtain ⟨u28, eu⟩ : ∃ z, z = setA u27 v2 ((((6 : Int32) * v0) + (2 : Int32)).toNatClampNeg) (1 : Int32) := ⟨_, rfl⟩
        rw [← eu] at hW
        replace h := h u28 eu
        clear eu
        refine lv_aload_n hx hb dL_sends_124 rfl (lv_at hl 2 rfl) ?_
        refine lv_bipush (v := (6 : Int32)) hx hb dL_sends_125 (by decide) ?_
        refine lv_iload_n hx hb dL_sends_127 rfl (lv_at hl 0 rfl) ?_
        refine lv_imul hx hb dL_sends_128 ?_
        refine lv_iconst (v := (3 : Int32)) hx hb dL_sends_129 (by decide) ?_
        refine lv_iadd hx hb dL_sends_130 ?_
        refine lv_iload_n hx hb dL_sends_131 rfl (lv_at hl 3 rfl) ?_
        refine rIast F hW h.1 h.2.1 dL_sends_132 (fun H locs hW => ?_)
        replace h := h.2.2
        obtain ⟨u29, eu⟩ : ∃ z, z = setA u28 v2 ((((6 : Int32) * v0) + (3 : Int32)).toNatClampNeg) v3 := ⟨_, rfl⟩
        rw [← eu] at hW
        replace h := h u29 eu
        clear eu
        exact retV F hr hW h dL_sends_133
    · have h := h.2 hc25
      refine lv_sipush (v := (1000 : Int32)) hx hb dL_sends_13 (by decide) ?_
      refine lv_bipush (v := (8 : Int32)) hx hb dL_sends_16 (by decide) ?_
      refine lv_aload_n hx hb dL_sends_18 rfl (lv_at hl 1 rfl) ?_
      refine lv_iconst (v := (3 : Int32)) hx hb dL_sends_19 (by decide) ?_
      refine lv_iload hx hb dL_sends_20 (lv_at hl 5 rfl) ?_
      refine lv_imul hx hb dL_sends_22 ?_
      refine rIald F hW h.1 h.2.1 dL_sends_23 ?_
      replace h := h.2.2
      refine lv_aload_n hx hb dL_sends_24 rfl (lv_at hl 2 rfl) ?_
      refine lv_bipush (v := (6 : Int32)) hx hb dL_sends_25 (by decide) ?_
      refine lv_iload_n hx hb dL_sends_27 rfl (lv_at hl 0 rfl) ?_
      refine lv_imul hx hb dL_sends_28 ?_
      refine rIald F hW h.1 h.2.1 dL_sends_29 ?_
      replace h := h.2.2
      refine cI (runS (n := 2) (As := [.int (mA u v1 ((3 : Int32) * v5).toNatClampNeg), .int (mA u v2 ((6 : Int32) * v0).toNatClampNeg)]) (rest := [.int (8 : Int32), .int (1000 : Int32)]) F hW (c_L_way F.2.2.2 G (mA u v1 ((3 : Int32) * v5).toNatClampNeg) (mA u v2 ((6 : Int32) * v0).toNatClampNeg) u _ h) q_332 q_333 q_68 q_334 (by decide +kernel) ⟨Nat.le_of_ble_eq_true rfl, Nat.le_of_ble_eq_true rfl⟩ dL_sends_30 rfl hl.1 (Nat.le_of_ble_eq_true rfl) ⟨Nat.zero_le _, Nat.zero_le _⟩) hW (fun r31 u30 h9 H locs hW => ?_)
      replace h := h9
      clear h9
      refine lv_isub hx hb dL_sends_33 ?_
      refine lv_imul hx hb dL_sends_34 ?_
      refine lv_aload_n hx hb dL_sends_35 rfl (lv_at hl 1 rfl) ?_
      refine lv_iconst (v := (3 : Int32)) hx hb dL_sends_36 (by decide) ?_
      refine lv_iload hx hb dL_sends_37 (lv_at hl 5 rfl) ?_
      refine lv_imul hx hb dL_sends_39 ?_
      refine lv_iconst (v := (1 : Int32)) hx hb dL_sends_40 (by decide) ?_
      refine lv_iadd hx hb dL_sends_41 ?_
      refine rIald F hW h.1 h.2.1 dL_sends_42 ?_
      replace h := h.2.2
      refine lv_iadd hx hb dL_sends_43 ?_
      refine lv_istore (lv' := [(6, .int (((1000 : Int32) * ((8 : Int32) - r31)) + (mA u30 v1 (((3 : Int32) * v5) + (1 : Int32)).toNatClampNeg))), (0, .int v0), (1, .ref v1), (2, .ref v2), (3, .int v3), (4, .int v4), (5, .int v5)]) hx hb dL_sends_44 hl (by decide) rfl (fun ls hl9 => ?_)
      replace hl := hl9
      clear hl9
      refine lv_aload_n hx hb dL_sends_46 rfl (lv_at hl 2 rfl) ?_
      refine lv_iconst (v := (3 : Int32)) hx hb dL_sends_47 (by decide) ?_
      refine lv_iload hx hb dL_sends_48 (lv_at hl 6 rfl) ?_
      refine lv_imul hx hb dL_sends_50 ?_
      refine lv_iconst (v := (2 : Int32)) hx hb dL_sends_51 (by decide) ?_
      refine lv_iadd hx hb dL_sends_52 ?_
      refine rIald F hW h.1 h.2.1 dL_sends_53 ?_
      replace h := h.2.2
      refine lv_if_ge (tgt := 68) hx hb dL_sends_54 (by decide) (fun hc32 => ?_) (fun hc32 => ?_)
      · have h := h.1 hc32
        exact t_L_sends_68 v0 v1 v2 F hr K J8 hJ8 v3 v4 v5 (((1000 : Int32) * ((8 : Int32) - r31)) + (mA u30 v1 (((3 : Int32) * v5) + (1 : Int32)).toNatClampNeg)) u30 _ _ _ h hW (lv_sub hl [1, 2, 3, 4, 5, 6, 0] rfl)
      · have h := h.2 hc32
        refine lv_iload hx hb dL_sends_57 (lv_at hl 0 rfl) ?_
        refine lv_iload hx hb dL_sends_59 (lv_at hl 5 rfl) ?_
        refine lv_icmp_lt (tgt := 68) hx hb dL_sends_61 (by decide) (fun hc33 => ?_) (fun hc33 => ?_)
        · have h := h.1 hc33
          exact t_L_sends_68 v0 v1 v2 F hr K J8 hJ8 v3 v4 v5 (((1000 : Int32) * ((8 : Int32) - r31)) + (mA u30 v1 (((3 : Int32) * v5) + (1 : Int32)).toNatClampNeg)) u30 _ _ _ h hW (lv_sub hl [1, 2, 3, 4, 5, 6, 0] rfl)
        · have h := h.2 hc33
          refine lv_iconst (v := (1 : Int32)) hx hb dL_sends_64 (by decide) ?_
          refine lv_goto (tgt := 69) hx hb dL_sends_65 (by decide) ?_
          exact t_L_sends_69 v0 v1 v2 F hr K J8 hJ8 v3 v4 v5 (((1000 : Int32) * ((8 : Int32) - r31)) + (mA u30 v1 (((3 : Int32) * v5) + (1 : Int32)).toNatClampNeg)) (1 : Int32) u30 _ _ _ h hW (lv_sub hl [1, 2, 3, 4, 5, 6, 0] rfl)
set_option maxHeartbeats 4000000 in
set_option maxRecDepth 100000 in
theorem c_L_sends {l : Launch} (hst : l.stackTraces = false) (G : Ctx) (v0 : Int32) (v1 : Nat) (v2 : Nat) (u : Mem) (K : Mem → Prop) (h : w_L_sends G v0 v1 v2 u K) : CtV l yL_sends (.code yL_sends cL_sends 8 none) 1 22 0 0 G [.int v0, .ref v1, .ref v2] u K := by
  refine entM (by first | decide | decide +kernel) hst (by first | decide | exact Nat.le_of_ble_eq_true rfl) (fun p e s m below meth c ls F hr hnm hW hl => ?_)
  have F : Fx p l s m ([.int v0, .ref v1, .ref v2]).toArray meth c cL_sends 8 RL G := F
  have hnm : meth.name = "sends" := hnm
  have hl : lv_has ls 8 [(0, .int v0), (1, .ref v1), (2, .ref v2)] := hl
  have hx := F.1.1
  have hb := F.1.2.1
  unfold w_L_sends at h
  refine lv_iconst (v := (-1 : Int32)) hx hb dL_sends_0 (by decide) ?_
  refine lv_istore_n (lv' := [(3, .int (-1 : Int32)), (0, .int v0), (1, .ref v1), (2, .ref v2)]) hx hb dL_sends_1 rfl hl (by decide) rfl (fun ls hl9 => ?_)
  replace hl := hl9
  clear hl9
  refine lv_iconst (v := (-1 : Int32)) hx hb dL_sends_2 (by decide) ?_
  refine lv_istore (lv' := [(4, .int (-1 : Int32)), (3, .int (-1 : Int32)), (0, .int v0), (1, .ref v1), (2, .ref v2)]) hx hb dL_sends_3 hl (by decide) rfl (fun ls hl9 => ?_)
  replace hl := hl9
  clear hl9
  refine lv_iconst (v := (3 : Int32)) hx hb dL_sends_5 (by decide) ?_
  refine lv_istore (lv' := [(5, .int (3 : Int32)), (4, .int (-1 : Int32)), (3, .int (-1 : Int32)), (0, .int v0), (1, .ref v1), (2, .ref v2)]) hx hb dL_sends_6 hl (by decide) rfl (fun ls hl9 => ?_)
  replace hl := hl9
  clear hl9
  obtain ⟨n, h⟩ := h
  exact t_L_sends_8 v0 v1 v2 F hr K n (-1 : Int32) (-1 : Int32) (3 : Int32) u _ _ _ h hW (lv_sub hl [3, 4, 5, 2, 1, 0] rfl)
set_option maxHeartbeats 4000000 in
set_option maxRecDepth 100000 in
theorem t_L_minutes_123 {p : Program} {l : Launch} {e : Env} {s : State} {m : MethodId} {below : List Frame} {meth : Method} {c : Code} {G : Ctx} (v0 : Int32) (v1 : Nat) (v2 : Nat) (v3 : Nat) (v4 : Nat) (v5 : Nat) (v6 : Nat) (F : Fx p l s m ([.int v0, .ref v1, .ref v2, .ref v3, .ref v4, .ref v5, .ref v6]).toArray meth c cL_minutes 11 RL G) (hr : meth.sig.returnType = (some .int)) (K : Int32 → Mem → Prop) (J6 : Int32 → Int32 → Mem → Prop) (hJ6 : ∀ (v7 : Int32) (v8 : Int32) (u : Mem) (H : Heap) (locs : List Loc) (ls : Array Slot), J6 v7 v8 u → Wd G u s H locs → lv_has ls 11 [(0, .int v0), (1, .ref v1), (2, .ref v2), (3, .ref v3), (4, .ref v4), (5, .ref v5), (6, .ref v6), (7, .int v7), (8, .int v8)] → W p l e { frames := 3, cells := 0, slots := 0, locals := 74 } s m ([.int v0, .ref v1, .ref v2, .ref v3, .ref v4, .ref v5, .ref v6]).toArray below meth c H locs 0 0 (MQ below (va_Qi K (fun u' t => Wp G u' t.heap) (Ab G)) ([.int v0, .ref v1, .ref v2, .ref v3, .ref v4, .ref v5, .ref v6]).toArray s 0 0 (Ab G)) (F0 m 6 ls [])) (J52 : Int32 → Int32 → Int32 → Mem → Prop) (hJ52 : ∀ (v7 : Int32) (v8 : Int32) (v9 : Int32) (u : Mem) (H : Heap) (locs : List Loc) (ls : Array Slot), J52 v7 v8 v9 u → Wd G u s H locs → lv_has ls 11 [(0, .int v0), (1, .ref v1), (2, .ref v2), (3, .ref v3), (4, .ref v4), (5, .ref v5), (6, .ref v6), (7, .int v7), (8, .int v8), (9, .int v9)] → W p l e { frames := 3, cells := 0, slots := 0, locals := 74 } s m ([.int v0, .ref v1, .ref v2, .ref v3, .ref v4, .ref v5, .ref v6]).toArray below meth c H locs 0 0 (MQ below (va_Qi K (fun u' t => Wp G u' t.heap) (Ab G)) ([.int v0, .ref v1, .ref v2, .ref v3, .ref v4, .ref v5, .ref v6]).toArray s 0 0 (Ab G)) (F0 m 52 ls [])) : ∀ (v8 : Int32) (v9 : Int32) (s0 : Int32) (s1 : Int32) (u : Mem) (H : Heap) (locs : List Loc) (ls : Array Slot), w_L_minutes_123 G v0 v1 v2 v3 v4 v5 v6 K J6 J52 v8 v9 s0 s1 u → Wd G u s H locs → lv_has ls 11 [(0, .int v0), (1, .ref v1), (2, .ref v2), (3, .ref v3), (4, .ref v4), (5, .ref v5), (6, .ref v6), (8, .int v8), (9, .int v9)] → W p l e { frames := 3, cells := 0, slots := 0, locals := 74 } s m ([.int v0, .ref v1, .ref v2, .ref v3, .ref v4, .ref v5, .ref v6]).toArray below meth c H locs 0 0 (MQ below (va_Qi K (fun u' t => Wp G u' t.heap) (Ab G)) ([.int v0, .ref v1, .ref v2, .ref v3, .ref v4, .ref v5, .ref v6]).toArray s 0 0 (Ab G)) (F0 m 123 ls [.int s0, .int s1]) := by
  have hx := F.1.1
  have hb := F.1.2.1
  intro v8 v9 s0 s1 u H locs ls h hW hl
  unfold w_L_minutes_123 at h
  refine lv_iadd hx hb dL_minutes_123 ?_
  refine lv_istore (lv' := [(7, .int (s1 + s0)), (0, .int v0), (1, .ref v1), (2, .ref v2), (3, .ref v3), (4, .ref v4), (5, .ref v5), (6, .ref v6), (8, .int v8), (9, .int v9)]) hx hb dL_minutes_124 hl (by decide) rfl (fun ls hl9 => ?_)
  replace hl := hl9
  clear hl9
  refine lv_iinc (v := (v9 + 1)) (lv' := [(9, .int (v9 + 1)), (7, .int (s1 + s0)), (0, .int v0), (1, .ref v1), (2, .ref v2), (3, .ref v3), (4, .ref v4), (5, .ref v5), (6, .ref v6), (8, .int v8)]) hx hb dL_minutes_126 hl (k := 9) rfl rfl (by decide) rfl (fun ls hl9 => ?_)
  replace hl := hl9
  clear hl9
  refine lv_goto (tgt := 52) hx hb dL_minutes_129 (by decide) ?_
  exact hJ52 (s1 + s0) v8 (v9 + 1) u _ _ _ h hW (lv_sub hl [2, 3, 4, 5, 6, 7, 8, 1, 9, 0] rfl)
set_option maxHeartbeats 4000000 in
set_option maxRecDepth 100000 in
theorem t_L_minutes_122 {p : Program} {l : Launch} {e : Env} {s : State} {m : MethodId} {below : List Frame} {meth : Method} {c : Code} {G : Ctx} (v0 : Int32) (v1 : Nat) (v2 : Nat) (v3 : Nat) (v4 : Nat) (v5 : Nat) (v6 : Nat) (F : Fx p l s m ([.int v0, .ref v1, .ref v2, .ref v3, .ref v4, .ref v5, .ref v6]).toArray meth c cL_minutes 11 RL G) (hr : meth.sig.returnType = (some .int)) (K : Int32 → Mem → Prop) (J6 : Int32 → Int32 → Mem → Prop) (hJ6 : ∀ (v7 : Int32) (v8 : Int32) (u : Mem) (H : Heap) (locs : List Loc) (ls : Array Slot), J6 v7 v8 u → Wd G u s H locs → lv_has ls 11 [(0, .int v0), (1, .ref v1), (2, .ref v2), (3, .ref v3), (4, .ref v4), (5, .ref v5), (6, .ref v6), (7, .int v7), (8, .int v8)] → W p l e { frames := 3, cells := 0, slots := 0, locals := 74 } s m ([.int v0, .ref v1, .ref v2, .ref v3, .ref v4, .ref v5, .ref v6]).toArray below meth c H locs 0 0 (MQ below (va_Qi K (fun u' t => Wp G u' t.heap) (Ab G)) ([.int v0, .ref v1, .ref v2, .ref v3, .ref v4, .ref v5, .ref v6]).toArray s 0 0 (Ab G)) (F0 m 6 ls [])) (J52 : Int32 → Int32 → Int32 → Mem → Prop) (hJ52 : ∀ (v7 : Int32) (v8 : Int32) (v9 : Int32) (u : Mem) (H : Heap) (locs : List Loc) (ls : Array Slot), J52 v7 v8 v9 u → Wd G u s H locs → lv_has ls 11 [(0, .int v0), (1, .ref v1), (2, .ref v2), (3, .ref v3), (4, .ref v4), (5, .ref v5), (6, .ref v6), (7, .int v7), (8, .int v8), (9, .int v9)] → W p l e { frames := 3, cells := 0, slots := 0, locals := 74 } s m ([.int v0, .ref v1, .ref v2, .ref v3, .ref v4, .ref v5, .ref v6]).toArray below meth c H locs 0 0 (MQ below (va_Qi K (fun u' t => Wp G u' t.heap) (Ab G)) ([.int v0, .ref v1, .ref v2, .ref v3, .ref v4, .ref v5, .ref v6]).toArray s 0 0 (Ab G)) (F0 m 52 ls [])) : ∀ (v8 : Int32) (v9 : Int32) (s0 : Int32) (u : Mem) (H : Heap) (locs : List Loc) (ls : Array Slot), w_L_minutes_122 G v0 v1 v2 v3 v4 v5 v6 K J6 J52 v8 v9 s0 u → Wd G u s H locs → lv_has ls 11 [(0, .int v0), (1, .ref v1), (2, .ref v2), (3, .ref v3), (4, .ref v4), (5, .ref v5), (6, .ref v6), (8, .int v8), (9, .int v9)] → W p l e { frames := 3, cells := 0, slots := 0, locals := 74 } s m ([.int v0, .ref v1, .ref v2, .ref v3, .ref v4, .ref v5, .ref v6]).toArray below meth c H locs 0 0 (MQ below (va_Qi K (fun u' t => Wp G u' t.heap) (Ab G)) ([.int v0, .ref v1, .ref v2, .ref v3, .ref v4, .ref v5, .ref v6]).toArray s 0 0 (Ab G)) (F0 m 122 ls [.int s0]) := by
  have hx := F.1.1
  have hb := F.1.2.1
  intro v8 v9 s0 u H locs ls h hW hl
  unfold w_L_minutes_122 at h
  refine lv_iconst (v := (0 : Int32)) hx hb dL_minutes_122 (by decide) ?_
  exact t_L_minutes_123 v0 v1 v2 v3 v4 v5 v6 F hr K J6 hJ6 J52 hJ52 v8 v9 (0 : Int32) s0 u _ _ _ h hW (lv_sub hl [0, 1, 2, 3, 4, 5, 6, 7, 8] rfl)
set_option maxHeartbeats 4000000 in
set_option maxRecDepth 100000 in
theorem t_L_minutes_92 {p : Program} {l : Launch} {e : Env} {s : State} {m : MethodId} {below : List Frame} {meth : Method} {c : Code} {G : Ctx} (v0 : Int32) (v1 : Nat) (v2 : Nat) (v3 : Nat) (v4 : Nat) (v5 : Nat) (v6 : Nat) (F : Fx p l s m ([.int v0, .ref v1, .ref v2, .ref v3, .ref v4, .ref v5, .ref v6]).toArray meth c cL_minutes 11 RL G) (hr : meth.sig.returnType = (some .int)) (K : Int32 → Mem → Prop) (J6 : Int32 → Int32 → Mem → Prop) (hJ6 : ∀ (v7 : Int32) (v8 : Int32) (u : Mem) (H : Heap) (locs : List Loc) (ls : Array Slot), J6 v7 v8 u → Wd G u s H locs → lv_has ls 11 [(0, .int v0), (1, .ref v1), (2, .ref v2), (3, .ref v3), (4, .ref v4), (5, .ref v5), (6, .ref v6), (7, .int v7), (8, .int v8)] → W p l e { frames := 3, cells := 0, slots := 0, locals := 74 } s m ([.int v0, .ref v1, .ref v2, .ref v3, .ref v4, .ref v5, .ref v6]).toArray below meth c H locs 0 0 (MQ below (va_Qi K (fun u' t => Wp G u' t.heap) (Ab G)) ([.int v0, .ref v1, .ref v2, .ref v3, .ref v4, .ref v5, .ref v6]).toArray s 0 0 (Ab G)) (F0 m 6 ls [])) (J52 : Int32 → Int32 → Int32 → Mem → Prop) (hJ52 : ∀ (v7 : Int32) (v8 : Int32) (v9 : Int32) (u : Mem) (H : Heap) (locs : List Loc) (ls : Array Slot), J52 v7 v8 v9 u → Wd G u s H locs → lv_has ls 11 [(0, .int v0), (1, .ref v1), (2, .ref v2), (3, .ref v3), (4, .ref v4), (5, .ref v5), (6, .ref v6), (7, .int v7), (8, .int v8), (9, .int v9)] → W p l e { frames := 3, cells := 0, slots := 0, locals := 74 } s m ([.int v0, .ref v1, .ref v2, .ref v3, .ref v4, .ref v5, .ref v6]).toArray below meth c H locs 0 0 (MQ below (va_Qi K (fun u' t => Wp G u' t.heap) (Ab G)) ([.int v0, .ref v1, .ref v2, .ref v3, .ref v4, .ref v5, .ref v6]).toArray s 0 0 (Ab G)) (F0 m 52 ls [])) : ∀ (v7 : Int32) (v8 : Int32) (v9 : Int32) (s0 : Int32) (u : Mem) (H : Heap) (locs : List Loc) (ls : Array Slot), w_L_minutes_92 G v0 v1 v2 v3 v4 v5 v6 K J6 J52 v7 v8 v9 s0 u → Wd G u s H locs → lv_has ls 11 [(0, .int v0), (1, .ref v1), (2, .ref v2), (3, .ref v3), (4, .ref v4), (5, .ref v5), (6, .ref v6), (7, .int v7), (8, .int v8), (9, .int v9)] → W p l e { frames := 3, cells := 0, slots := 0, locals := 74 } s m ([.int v0, .ref v1, .ref v2, .ref v3, .ref v4, .ref v5, .ref v6]).toArray below meth c H locs 0 0 (MQ below (va_Qi K (fun u' t => Wp G u' t.heap) (Ab G)) ([.int v0, .ref v1, .ref v2, .ref v3, .ref v4, .ref v5, .ref v6]).toArray s 0 0 (Ab G)) (F0 m 92 ls [.int s0]) := by
  have hx := F.1.1
  have hb := F.1.2.1
  intro v7 v8 v9 s0 u H locs ls h hW hl
  unfold w_L_minutes_92 at h
  refine lv_istore (lv' := [(10, .int s0), (0, .int v0), (1, .ref v1), (2, .ref v2), (3, .ref v3), (4, .ref v4), (5, .ref v5), (6, .ref v6), (7, .int v7), (8, .int v8), (9, .int v9)]) hx hb dL_minutes_92 hl (by decide) rfl (fun ls hl9 => ?_)
  replace hl := hl9
  clear hl9
  refine lv_iload hx hb dL_minutes_94 (lv_at hl 8 rfl) ?_
  refine lv_iload hx hb dL_minutes_96 (lv_at hl 0 rfl) ?_
  refine lv_if_eq (tgt := 122) hx hb dL_minutes_98 (by decide) (fun hc27 => ?_) (fun hc27 => ?_)
  · have h := h.1 hc27
    exact t_L_minutes_122 v0 v1 v2 v3 v4 v5 v6 F hr K J6 hJ6 J52 hJ52 v8 v9 v7 u _ _ _ h hW (lv_sub hl [1, 2, 3, 4, 5, 6, 7, 9, 10] rfl)
  · have h := h.2 hc27
    refine lv_iload hx hb dL_minutes_101 (lv_at hl 10 rfl) ?_
    refine lv_aload_n hx hb dL_minutes_103 rfl (lv_at hl 2 rfl) ?_
    refine lv_aload_n hx hb dL_minutes_104 rfl (lv_at hl 3 rfl) ?_
    refine lv_aload_n hx hb dL_minutes_105 rfl (lv_at hl 4 rfl) ?_
    refine lv_aload hx hb dL_minutes_106 (lv_at hl 5 rfl) ?_
    refine lv_aload hx hb dL_minutes_108 (lv_at hl 6 rfl) ?_
    refine lv_aload hx hb dL_minutes_110 (lv_at hl 7 rfl) ?_
    refine cI (runS (n := 7) (As := [.int v9, .ref v1, .ref v2, .ref v3, .ref v4, .ref v5, .ref v6]) (rest := [.int v7]) F hW (c_L_goes F.2.2.2 G v9 v1 v2 v3 v4 v5 v6 u _ h) q_335 q_336 q_68 q_337 (by decide +kernel) ⟨Nat.le_of_ble_eq_true rfl, Nat.le_of_ble_eq_true rfl⟩ dL_minutes_112 rfl hl.1 (Nat.le_of_ble_eq_true rfl) ⟨Nat.zero_le _, Nat.zero_le _⟩) hW (fun r29 u28 h9 H locs hW => ?_)
    replace h := h9
    clear h9
    refine lv_if_eq (tgt := 122) hx hb dL_minutes_115 (by decide) (fun hc30 => ?_) (fun hc30 => ?_)
    · have h := h.1 hc30
      exact t_L_minutes_122 v0 v1 v2 v3 v4 v5 v6 F hr K J6 hJ6 J52 hJ52 v8 v9 v7 u28 _ _ _ h hW (lv_sub hl [1, 2, 3, 4, 5, 6, 7, 9, 10] rfl)
    · have h := h.2 hc30
      refine lv_iconst (v := (1 : Int32)) hx hb dL_minutes_118 (by decide) ?_
      refine lv_goto (tgt := 123) hx hb dL_minutes_119 (by decide) ?_
      exact t_L_minutes_123 v0 v1 v2 v3 v4 v5 v6 F hr K J6 hJ6 J52 hJ52 v8 v9 (1 : Int32) v7 u28 _ _ _ h hW (lv_sub hl [1, 2, 3, 4, 5, 6, 7, 9, 10] rfl)
set_option maxHeartbeats 4000000 in
set_option maxRecDepth 100000 in
theorem t_L_minutes_87 {p : Program} {l : Launch} {e : Env} {s : State} {m : MethodId} {below : List Frame} {meth : Method} {c : Code} {G : Ctx} (v0 : Int32) (v1 : Nat) (v2 : Nat) (v3 : Nat) (v4 : Nat) (v5 : Nat) (v6 : Nat) (F : Fx p l s m ([.int v0, .ref v1, .ref v2, .ref v3, .ref v4, .ref v5, .ref v6]).toArray meth c cL_minutes 11 RL G) (hr : meth.sig.returnType = (some .int)) (K : Int32 → Mem → Prop) (J6 : Int32 → Int32 → Mem → Prop) (hJ6 : ∀ (v7 : Int32) (v8 : Int32) (u : Mem) (H : Heap) (locs : List Loc) (ls : Array Slot), J6 v7 v8 u → Wd G u s H locs → lv_has ls 11 [(0, .int v0), (1, .ref v1), (2, .ref v2), (3, .ref v3), (4, .ref v4), (5, .ref v5), (6, .ref v6), (7, .int v7), (8, .int v8)] → W p l e { frames := 3, cells := 0, slots := 0, locals := 74 } s m ([.int v0, .ref v1, .ref v2, .ref v3, .ref v4, .ref v5, .ref v6]).toArray below meth c H locs 0 0 (MQ below (va_Qi K (fun u' t => Wp G u' t.heap) (Ab G)) ([.int v0, .ref v1, .ref v2, .ref v3, .ref v4, .ref v5, .ref v6]).toArray s 0 0 (Ab G)) (F0 m 6 ls [])) (J52 : Int32 → Int32 → Int32 → Mem → Prop) (hJ52 : ∀ (v7 : Int32) (v8 : Int32) (v9 : Int32) (u : Mem) (H : Heap) (locs : List Loc) (ls : Array Slot), J52 v7 v8 v9 u → Wd G u s H locs → lv_has ls 11 [(0, .int v0), (1, .ref v1), (2, .ref v2), (3, .ref v3), (4, .ref v4), (5, .ref v5), (6, .ref v6), (7, .int v7), (8, .int v8), (9, .int v9)] → W p l e { frames := 3, cells := 0, slots := 0, locals := 74 } s m ([.int v0, .ref v1, .ref v2, .ref v3, .ref v4, .ref v5, .ref v6]).toArray below meth c H locs 0 0 (MQ below (va_Qi K (fun u' t => Wp G u' t.heap) (Ab G)) ([.int v0, .ref v1, .ref v2, .ref v3, .ref v4, .ref v5, .ref v6]).toArray s 0 0 (Ab G)) (F0 m 52 ls [])) : ∀ (v7 : Int32) (v8 : Int32) (v9 : Int32) (u : Mem) (H : Heap) (locs : List Loc) (ls : Array Slot), w_L_minutes_87 G v0 v1 v2 v3 v4 v5 v6 K J6 J52 v7 v8 v9 u → Wd G u s H locs → lv_has ls 11 [(0, .int v0), (1, .ref v1), (2, .ref v2), (3, .ref v3), (4, .ref v4), (5, .ref v5), (6, .ref v6), (7, .int v7), (8, .int v8), (9, .int v9)] → W p l e { frames := 3, cells := 0, slots := 0, locals := 74 } s m ([.int v0, .ref v1, .ref v2, .ref v3, .ref v4, .ref v5, .ref v6]).toArray below meth c H locs 0 0 (MQ below (va_Qi K (fun u' t => Wp G u' t.heap) (Ab G)) ([.int v0, .ref v1, .ref v2, .ref v3, .ref v4, .ref v5, .ref v6]).toArray s 0 0 (Ab G)) (F0 m 87 ls []) := by
  have hx := F.1.1
  have hb := F.1.2.1
  intro v7 v8 v9 u H locs ls h hW hl
  unfold w_L_minutes_87 at h
  refine lv_iconst (v := (1 : Int32)) hx hb dL_minutes_87 (by decide) ?_
  refine lv_goto (tgt := 92) hx hb dL_minutes_88 (by decide) ?_
  exact t_L_minutes_92 v0 v1 v2 v3 v4 v5 v6 F hr K J6 hJ6 J52 hJ52 v7 v8 v9 (1 : Int32) u _ _ _ h hW (lv_sub hl [0, 1, 2, 3, 4, 5, 6, 7, 8, 9] rfl)
set_option maxHeartbeats 4000000 in
set_option maxRecDepth 100000 in
theorem t_L_minutes_52 {p : Program} {l : Launch} {e : Env} {s : State} {m : MethodId} {below : List Frame} {meth : Method} {c : Code} {G : Ctx} (v0 : Int32) (v1 : Nat) (v2 : Nat) (v3 : Nat) (v4 : Nat) (v5 : Nat) (v6 : Nat) (F : Fx p l s m ([.int v0, .ref v1, .ref v2, .ref v3, .ref v4, .ref v5, .ref v6]).toArray meth c cL_minutes 11 RL G) (hr : meth.sig.returnType = (some .int)) (K : Int32 → Mem → Prop) (J6 : Int32 → Int32 → Mem → Prop) (hJ6 : ∀ (v7 : Int32) (v8 : Int32) (u : Mem) (H : Heap) (locs : List Loc) (ls : Array Slot), J6 v7 v8 u → Wd G u s H locs → lv_has ls 11 [(0, .int v0), (1, .ref v1), (2, .ref v2), (3, .ref v3), (4, .ref v4), (5, .ref v5), (6, .ref v6), (7, .int v7), (8, .int v8)] → W p l e { frames := 3, cells := 0, slots := 0, locals := 74 } s m ([.int v0, .ref v1, .ref v2, .ref v3, .ref v4, .ref v5, .ref v6]).toArray below meth c H locs 0 0 (MQ below (va_Qi K (fun u' t => Wp G u' t.heap) (Ab G)) ([.int v0, .ref v1, .ref v2, .ref v3, .ref v4, .ref v5, .ref v6]).toArray s 0 0 (Ab G)) (F0 m 6 ls [])) : ∀ (n : Nat), ∀ (v7 : Int32) (v8 : Int32) (v9 : Int32) (u : Mem) (H : Heap) (locs : List Loc) (ls : Array Slot), w_L_minutes_52 G v0 v1 v2 v3 v4 v5 v6 K J6 n v7 v8 v9 u → Wd G u s H locs → lv_has ls 11 [(0, .int v0), (1, .ref v1), (2, .ref v2), (3, .ref v3), (4, .ref v4), (5, .ref v5), (6, .ref v6), (7, .int v7), (8, .int v8), (9, .int v9)] → W p l e { frames := 3, cells := 0, slots := 0, locals := 74 } s m ([.int v0, .ref v1, .ref v2, .ref v3, .ref v4, .ref v5, .ref v6]).toArray below meth c H locs 0 0 (MQ below (va_Qi K (fun u' t => Wp G u' t.heap) (Ab G)) ([.int v0, .ref v1, .ref v2, .ref v3, .ref v4, .ref v5, .ref v6]).toArray s 0 0 (Ab G)) (F0 m 52 ls []) := by
  have hx := F.1.1
  have hb := F.1.2.1
  intro n
  induction n with
  | zero =>
    intro v7 v8 v9 u H locs ls h hW hl
    exact h.elim
  | succ n hJ52 =>
    intro v7 v8 v9 u H locs ls h hW hl
    have h : b_L_minutes_52 G v0 v1 v2 v3 v4 v5 v6 K J6 (w_L_minutes_52 G v0 v1 v2 v3 v4 v5 v6 K J6 n) v7 v8 v9 u := h
    revert h
    generalize w_L_minutes_52 G v0 v1 v2 v3 v4 v5 v6 K J6 n = J52 at hJ52 ⊢
    intro h
    unfold b_L_minutes_52 at h
    refine lv_iload hx hb dL_minutes_52 (lv_at hl 9 rfl) ?_
    refine lv_aload hx hb dL_minutes_54 (lv_at hl 6 rfl) ?_
    refine lv_iconst (v := (2 : Int32)) hx hb dL_minutes_56 (by decide) ?_
    refine rIald F hW h.1 h.2.1 dL_minutes_57 ?_
    replace h := h.2.2
    refine lv_icmp_ge (tgt := 132) hx hb dL_minutes_58 (by decide) (fun hc31 => ?_) (fun hc31 => ?_)
    · have h := h.1 hc31
      refine lv_iinc (v := (v8 + 1)) (lv' := [(8, .int (v8 + 1)), (0, .int v0), (1, .ref v1), (2, .ref v2), (3, .ref v3), (4, .ref v4), (5, .ref v5), (6, .ref v6), (7, .int v7), (9, .int v9)]) hx hb dL_minutes_132 hl (k := 8) rfl rfl (by decide) rfl (fun ls hl9 => ?_)
      replace hl := hl9
      clear hl9
      refine lv_goto (tgt := 6) hx hb dL_minutes_135 (by decide) ?_
      exact hJ6 v7 (v8 + 1) u _ _ _ h hW (lv_sub hl [1, 2, 3, 4, 5, 6, 7, 8, 0] rfl)
    · have h := h.2 hc31
      refine lv_aload_n hx hb dL_minutes_61 rfl (lv_at hl 3 rfl) ?_
      refine lv_bipush (v := (6 : Int32)) hx hb dL_minutes_62 (by decide) ?_
      refine lv_iload hx hb dL_minutes_64 (lv_at hl 9 rfl) ?_
      refine lv_imul hx hb dL_minutes_66 ?_
      refine lv_iconst (v := (2 : Int32)) hx hb dL_minutes_67 (by decide) ?_
      refine lv_iadd hx hb dL_minutes_68 ?_
      refine rIald F hW h.1 h.2.1 dL_minutes_69 ?_
      replace h := h.2.2
      refine lv_iconst (v := (1 : Int32)) hx hb dL_minutes_70 (by decide) ?_
      refine lv_icmp_eq (tgt := 87) hx hb dL_minutes_71 (by decide) (fun hc32 => ?_) (fun hc32 => ?_)
      · have h := h.1 hc32
        exact t_L_minutes_87 v0 v1 v2 v3 v4 v5 v6 F hr K J6 hJ6 J52 hJ52 v7 v8 v9 u _ _ _ h hW (lv_sub hl [0, 1, 2, 3, 4, 5, 6, 7, 8, 9] rfl)
      · have h := h.2 hc32
        refine lv_aload_n hx hb dL_minutes_74 rfl (lv_at hl 3 rfl) ?_
        refine lv_bipush (v := (6 : Int32)) hx hb dL_minutes_75 (by decide) ?_
        refine lv_iload hx hb dL_minutes_77 (lv_at hl 9 rfl) ?_
        refine lv_imul hx hb dL_minutes_79 ?_
        refine lv_iconst (v := (2 : Int32)) hx hb dL_minutes_80 (by decide) ?_
        refine lv_iadd hx hb dL_minutes_81 ?_
        refine rIald F hW h.1 h.2.1 dL_minutes_82 ?_
        replace h := h.2.2
        refine lv_iconst (v := (2 : Int32)) hx hb dL_minutes_83 (by decide) ?_
        refine lv_icmp_ne (tgt := 91) hx hb dL_minutes_84 (by decide) (fun hc33 => ?_) (fun hc33 => ?_)
        · have h := h.2 hc33
          refine lv_iconst (v := (0 : Int32)) hx hb dL_minutes_91 (by decide) ?_
          exact t_L_minutes_92 v0 v1 v2 v3 v4 v5 v6 F hr K J6 hJ6 J52 hJ52 v7 v8 v9 (0 : Int32) u _ _ _ h hW (lv_sub hl [0, 1, 2, 3, 4, 5, 6, 7, 8, 9] rfl)
        · have h := h.1 hc33
          exact t_L_minutes_87 v0 v1 v2 v3 v4 v5 v6 F hr K J6 hJ6 J52 hJ52 v7 v8 v9 u _ _ _ h hW (lv_sub hl [0, 1, 2, 3, 4, 5, 6, 7, 8, 9] rfl)
set_option maxHeartbeats 4000000 in
set_option maxRecDepth 100000 in
theorem t_L_minutes_43 {p : Program} {l : Launch} {e : Env} {s : State} {m : MethodId} {below : List Frame} {meth : Method} {c : Code} {G : Ctx} (v0 : Int32) (v1 : Nat) (v2 : Nat) (v3 : Nat) (v4 : Nat) (v5 : Nat) (v6 : Nat) (F : Fx p l s m ([.int v0, .ref v1, .ref v2, .ref v3, .ref v4, .ref v5, .ref v6]).toArray meth c cL_minutes 11 RL G) (hr : meth.sig.returnType = (some .int)) (K : Int32 → Mem → Prop) (J6 : Int32 → Int32 → Mem → Prop) (hJ6 : ∀ (v7 : Int32) (v8 : Int32) (u : Mem) (H : Heap) (locs : List Loc) (ls : Array Slot), J6 v7 v8 u → Wd G u s H locs → lv_has ls 11 [(0, .int v0), (1, .ref v1), (2, .ref v2), (3, .ref v3), (4, .ref v4), (5, .ref v5), (6, .ref v6), (7, .int v7), (8, .int v8)] → W p l e { frames := 3, cells := 0, slots := 0, locals := 74 } s m ([.int v0, .ref v1, .ref v2, .ref v3, .ref v4, .ref v5, .ref v6]).toArray below meth c H locs 0 0 (MQ below (va_Qi K (fun u' t => Wp G u' t.heap) (Ab G)) ([.int v0, .ref v1, .ref v2, .ref v3, .ref v4, .ref v5, .ref v6]).toArray s 0 0 (Ab G)) (F0 m 6 ls [])) (J15 : Int32 → Int32 → Int32 → Mem → Prop) (hJ15 : ∀ (v7 : Int32) (v8 : Int32) (v9 : Int32) (u : Mem) (H : Heap) (locs : List Loc) (ls : Array Slot), J15 v7 v8 v9 u → Wd G u s H locs → lv_has ls 11 [(0, .int v0), (1, .ref v1), (2, .ref v2), (3, .ref v3), (4, .ref v4), (5, .ref v5), (6, .ref v6), (7, .int v7), (8, .int v8), (9, .int v9)] → W p l e { frames := 3, cells := 0, slots := 0, locals := 74 } s m ([.int v0, .ref v1, .ref v2, .ref v3, .ref v4, .ref v5, .ref v6]).toArray below meth c H locs 0 0 (MQ below (va_Qi K (fun u' t => Wp G u' t.heap) (Ab G)) ([.int v0, .ref v1, .ref v2, .ref v3, .ref v4, .ref v5, .ref v6]).toArray s 0 0 (Ab G)) (F0 m 15 ls [])) : ∀ (v7 : Int32) (v8 : Int32) (v9 : Int32) (u : Mem) (H : Heap) (locs : List Loc) (ls : Array Slot), w_L_minutes_43 G v0 v1 v2 v3 v4 v5 v6 K J6 J15 v7 v8 v9 u → Wd G u s H locs → lv_has ls 11 [(0, .int v0), (1, .ref v1), (2, .ref v2), (3, .ref v3), (4, .ref v4), (5, .ref v5), (6, .ref v6), (7, .int v7), (8, .int v8), (9, .int v9)] → W p l e { frames := 3, cells := 0, slots := 0, locals := 74 } s m ([.int v0, .ref v1, .ref v2, .ref v3, .ref v4, .ref v5, .ref v6]).toArray below meth c H locs 0 0 (MQ below (va_Qi K (fun u' t => Wp G u' t.heap) (Ab G)) ([.int v0, .ref v1, .ref v2, .ref v3, .ref v4, .ref v5, .ref v6]).toArray s 0 0 (Ab G)) (F0 m 43 ls []) := by
  have hx := F.1.1
  have hb := F.1.2.1
  intro v7 v8 v9 u H locs ls h hW hl
  unfold w_L_minutes_43 at h
  refine lv_iinc (v := (v9 + 1)) (lv' := [(9, .int (v9 + 1)), (0, .int v0), (1, .ref v1), (2, .ref v2), (3, .ref v3), (4, .ref v4), (5, .ref v5), (6, .ref v6), (7, .int v7), (8, .int v8)]) hx hb dL_minutes_43 hl (k := 9) rfl rfl (by decide) rfl (fun ls hl9 => ?_)
  replace hl := hl9
  clear hl9
  refine lv_goto (tgt := 15) hx hb dL_minutes_46 (by decide) ?_
  exact hJ15 v7 v8 (v9 + 1) u _ _ _ h hW (lv_sub hl [1, 2, 3, 4, 5, 6, 7, 8, 9, 0] rfl)
set_option maxHeartbeats 4000000 in
set_option maxRecDepth 100000 in
theorem t_L_minutes_15 {p : Program} {l : Launch} {e : Env} {s : State} {m : MethodId} {below : List Frame} {meth : Method} {c : Code} {G : Ctx} (v0 : Int32) (v1 : Nat) (v2 : Nat) (v3 : Nat) (v4 : Nat) (v5 : Nat) (v6 : Nat) (F : Fx p l s m ([.int v0, .ref v1, .ref v2, .ref v3, .ref v4, .ref v5, .ref v6]).toArray meth c cL_minutes 11 RL G) (hr : meth.sig.returnType = (some .int)) (K : Int32 → Mem → Prop) (J6 : Int32 → Int32 → Mem → Prop) (hJ6 : ∀ (v7 : Int32) (v8 : Int32) (u : Mem) (H : Heap) (locs : List Loc) (ls : Array Slot), J6 v7 v8 u → Wd G u s H locs → lv_has ls 11 [(0, .int v0), (1, .ref v1), (2, .ref v2), (3, .ref v3), (4, .ref v4), (5, .ref v5), (6, .ref v6), (7, .int v7), (8, .int v8)] → W p l e { frames := 3, cells := 0, slots := 0, locals := 74 } s m ([.int v0, .ref v1, .ref v2, .ref v3, .ref v4, .ref v5, .ref v6]).toArray below meth c H locs 0 0 (MQ below (va_Qi K (fun u' t => Wp G u' t.heap) (Ab G)) ([.int v0, .ref v1, .ref v2, .ref v3, .ref v4, .ref v5, .ref v6]).toArray s 0 0 (Ab G)) (F0 m 6 ls [])) : ∀ (n : Nat), ∀ (v7 : Int32) (v8 : Int32) (v9 : Int32) (u : Mem) (H : Heap) (locs : List Loc) (ls : Array Slot), w_L_minutes_15 G v0 v1 v2 v3 v4 v5 v6 K J6 n v7 v8 v9 u → Wd G u s H locs → lv_has ls 11 [(0, .int v0), (1, .ref v1), (2, .ref v2), (3, .ref v3), (4, .ref v4), (5, .ref v5), (6, .ref v6), (7, .int v7), (8, .int v8), (9, .int v9)] → W p l e { frames := 3, cells := 0, slots := 0, locals := 74 } s m ([.int v0, .ref v1, .ref v2, .ref v3, .ref v4, .ref v5, .ref v6]).toArray below meth c H locs 0 0 (MQ below (va_Qi K (fun u' t => Wp G u' t.heap) (Ab G)) ([.int v0, .ref v1, .ref v2, .ref v3, .ref v4, .ref v5, .ref v6]).toArray s 0 0 (Ab G)) (F0 m 15 ls []) := by
  have hx := F.1.1
  have hb := F.1.2.1
  intro n
  induction n with
  | zero =>
    intro v7 v8 v9 u H locs ls h hW hl
    exact h.elim
  | succ n hJ15 =>
    intro v7 v8 v9 u H locs ls h hW hl
    have h : b_L_minutes_15 G v0 v1 v2 v3 v4 v5 v6 K J6 (w_L_minutes_15 G v0 v1 v2 v3 v4 v5 v6 K J6 n) v7 v8 v9 u := h
    revert h
    generalize w_L_minutes_15 G v0 v1 v2 v3 v4 v5 v6 K J6 n = J15 at hJ15 ⊢
    intro h
    unfold b_L_minutes_15 at h
    refine lv_iload hx hb dL_minutes_15 (lv_at hl 9 rfl) ?_
    refine lv_aload hx hb dL_minutes_17 (lv_at hl 6 rfl) ?_
    refine lv_iconst (v := (2 : Int32)) hx hb dL_minutes_19 (by decide) ?_
    refine rIald F hW h.1 h.2.1 dL_minutes_20 ?_
    replace h := h.2.2
    refine lv_icmp_ge (tgt := 49) hx hb dL_minutes_21 (by decide) (fun hc34 => ?_) (fun hc34 => ?_)
    · have h := h.1 hc34
      refine lv_iconst (v := (0 : Int32)) hx hb dL_minutes_49 (by decide) ?_
      refine lv_istore (lv' := [(9, .int (0 : Int32)), (0, .int v0), (1, .ref v1), (2, .ref v2), (3, .ref v3), (4, .ref v4), (5, .ref v5), (6, .ref v6), (7, .int v7), (8, .int v8)]) hx hb dL_minutes_50 hl (by decide) rfl (fun ls hl9 => ?_)
      replace hl := hl9
      clear hl9
      obtain ⟨n, h⟩ := h
      exact t_L_minutes_52 v0 v1 v2 v3 v4 v5 v6 F hr K J6 hJ6 n v7 v8 (0 : Int32) u _ _ _ h hW (lv_sub hl [1, 2, 3, 4, 5, 6, 7, 8, 9, 0] rfl)
    · have h := h.2 hc34
      refine lv_aload_n hx hb dL_minutes_24 rfl (lv_at hl 3 rfl) ?_
      refine lv_bipush (v := (6 : Int32)) hx hb dL_minutes_25 (by decide) ?_
      refine lv_iload hx hb dL_minutes_27 (lv_at hl 9 rfl) ?_
      refine lv_imul hx hb dL_minutes_29 ?_
      refine lv_iconst (v := (2 : Int32)) hx hb dL_minutes_30 (by decide) ?_
      refine lv_iadd hx hb dL_minutes_31 ?_
      refine rIald F hW h.1 h.2.1 dL_minutes_32 ?_
      replace h := h.2.2
      refine lv_if_ne (tgt := 43) hx hb dL_minutes_33 (by decide) (fun hc35 => ?_) (fun hc35 => ?_)
      · have h := h.2 hc35
        exact t_L_minutes_43 v0 v1 v2 v3 v4 v5 v6 F hr K J6 hJ6 J15 hJ15 v7 v8 v9 u _ _ _ h hW (lv_sub hl [0, 1, 2, 3, 4, 5, 6, 7, 8, 9] rfl)
      · have h := h.1 hc35
        refine lv_iload hx hb dL_minutes_36 (lv_at hl 9 rfl) ?_
        refine lv_aload_n hx hb dL_minutes_38 rfl (lv_at hl 2 rfl) ?_
        refine lv_aload_n hx hb dL_minutes_39 rfl (lv_at hl 3 rfl) ?_
        refine cV (runS (n := 3) (As := [.int v9, .ref v2, .ref v3]) (rest := []) F hW (c_L_sends F.2.2.2 G v9 v2 v3 u _ h) q_329 q_330 q_68 q_331 (by decide +kernel) ⟨Nat.le_of_ble_eq_true rfl, Nat.le_of_ble_eq_true rfl⟩ dL_minutes_40 rfl hl.1 (Nat.le_of_ble_eq_true rfl) ⟨Nat.zero_le _, Nat.zero_le _⟩) hW (fun u36 h9 H locs hW => ?_)
        replace h := h9
        clear h9
        exact t_L_minutes_43 v0 v1 v2 v3 v4 v5 v6 F hr K J6 hJ6 J15 hJ15 v7 v8 v9 u36 _ _ _ h hW (lv_sub hl [0, 1, 2, 3, 4, 5, 6, 7, 8, 9] rfl)
set_option maxHeartbeats 4000000 in
set_option maxRecDepth 100000 in
theorem t_L_minutes_6 {p : Program} {l : Launch} {e : Env} {s : State} {m : MethodId} {below : List Frame} {meth : Method} {c : Code} {G : Ctx} (v0 : Int32) (v1 : Nat) (v2 : Nat) (v3 : Nat) (v4 : Nat) (v5 : Nat) (v6 : Nat) (F : Fx p l s m ([.int v0, .ref v1, .ref v2, .ref v3, .ref v4, .ref v5, .ref v6]).toArray meth c cL_minutes 11 RL G) (hr : meth.sig.returnType = (some .int)) (K : Int32 → Mem → Prop) : ∀ (n : Nat), ∀ (v7 : Int32) (v8 : Int32) (u : Mem) (H : Heap) (locs : List Loc) (ls : Array Slot), w_L_minutes_6 G v0 v1 v2 v3 v4 v5 v6 K n v7 v8 u → Wd G u s H locs → lv_has ls 11 [(0, .int v0), (1, .ref v1), (2, .ref v2), (3, .ref v3), (4, .ref v4), (5, .ref v5), (6, .ref v6), (7, .int v7), (8, .int v8)] → W p l e { frames := 3, cells := 0, slots := 0, locals := 74 } s m ([.int v0, .ref v1, .ref v2, .ref v3, .ref v4, .ref v5, .ref v6]).toArray below meth c H locs 0 0 (MQ below (va_Qi K (fun u' t => Wp G u' t.heap) (Ab G)) ([.int v0, .ref v1, .ref v2, .ref v3, .ref v4, .ref v5, .ref v6]).toArray s 0 0 (Ab G)) (F0 m 6 ls []) := by
  have hx := F.1.1
  have hb := F.1.2.1
  intro n
  induction n with
  | zero =>
    intro v7 v8 u H locs ls h hW hl
    exact h.elim
  | succ n hJ6 =>
    intro v7 v8 u H locs ls h hW hl
    have h : b_L_minutes_6 G v0 v1 v2 v3 v4 v5 v6 K (w_L_minutes_6 G v0 v1 v2 v3 v4 v5 v6 K n) v7 v8 u := h
    revert h
    generalize w_L_minutes_6 G v0 v1 v2 v3 v4 v5 v6 K n = J6 at hJ6 ⊢
    intro h
    unfold b_L_minutes_6 at h
    refine lv_iload hx hb dL_minutes_6 (lv_at hl 8 rfl) ?_
    refine lv_iload_n hx hb dL_minutes_8 rfl (lv_at hl 0 rfl) ?_
    refine lv_icmp_ge (tgt := 138) hx hb dL_minutes_9 (by decide) (fun hc38 => ?_) (fun hc38 => ?_)
    · have h := h.1 hc38
      refine lv_aload hx hb dL_minutes_138 (lv_at hl 6 rfl) ?_
      refine lv_iconst (v := (1 : Int32)) hx hb dL_minutes_140 (by decide) ?_
      refine lv_dup2_11 hx hb dL_minutes_141 rfl rfl ?_
      refine rIald F hW h.1 h.2.1 dL_minutes_142 ?_
      replace h := h.2.2
      refine lv_iload_n hx hb dL_minutes_143 rfl (lv_at hl 0 rfl) ?_
      refine lv_iadd hx hb dL_minutes_144 ?_
      refine rIast F hW h.1 h.2.1 dL_minutes_145 (fun H locs hW => ?_)
      replace h := h.2.2
      obtain ⟨u39, eu⟩ : ∃ z, z = setA u v6 ((1 : Int32).toNatClampNeg) ((mA u v6 (1 : Int32).toNatClampNeg) + v0) := ⟨_, rfl⟩
      rw [← eu] at hW
      replace h := h u39 eu
      clear eu
      refine lv_iload hx hb dL_minutes_146 (lv_at hl 7 rfl) ?_
      exact retI F hr hW h dL_minutes_148
    · have h := h.2 hc38
      refine lv_iconst (v := (0 : Int32)) hx hb dL_minutes_12 (by decide) ?_
      refine lv_istore (lv' := [(9, .int (0 : Int32)), (0, .int v0), (1, .ref v1), (2, .ref v2), (3, .ref v3), (4, .ref v4), (5, .ref v5), (6, .ref v6), (7, .int v7), (8, .int v8)]) hx hb dL_minutes_13 hl (by decide) rfl (fun ls hl9 => ?_)
      replace hl := hl9
      clear hl9
      obtain ⟨n, h⟩ := h
      exact t_L_minutes_15 v0 v1 v2 v3 v4 v5 v6 F hr K J6 hJ6 n v7 v8 (0 : Int32) u _ _ _ h hW (lv_sub hl [1, 2, 3, 4, 5, 6, 7, 8, 9, 0] rfl)
set_option maxHeartbeats 4000000 in
set_option maxRecDepth 100000 in
theorem c_L_minutes {l : Launch} (hst : l.stackTraces = false) (G : Ctx) (v0 : Int32) (v1 : Nat) (v2 : Nat) (v3 : Nat) (v4 : Nat) (v5 : Nat) (v6 : Nat) (u : Mem) (K : Int32 → Mem → Prop) (h : w_L_minutes G v0 v1 v2 v3 v4 v5 v6 u K) : CtI l yL_minutes (.code yL_minutes cL_minutes 11 (some .int)) 3 74 0 0 G [.int v0, .ref v1, .ref v2, .ref v3, .ref v4, .ref v5, .ref v6] u K := by
  refine entM (by first | decide | decide +kernel) hst (by first | decide | exact Nat.le_of_ble_eq_true rfl) (fun p e s m below meth c ls F hr hnm hW hl => ?_)
  have F : Fx p l s m ([.int v0, .ref v1, .ref v2, .ref v3, .ref v4, .ref v5, .ref v6]).toArray meth c cL_minutes 11 RL G := F
  have hnm : meth.name = "minutes" := hnm
  have hl : lv_has ls 11 [(0, .int v0), (1, .ref v1), (2, .ref v2), (3, .ref v3), (4, .ref v4), (5, .ref v5), (6, .ref v6)] := hl
  have hx := F.1.1
  have hb := F.1.2.1
  unfold w_L_minutes at h
  refine lv_iconst (v := (0 : Int32)) hx hb dL_minutes_0 (by decide) ?_
  refine lv_istore (lv' := [(7, .int (0 : Int32)), (0, .int v0), (1, .ref v1), (2, .ref v2), (3, .ref v3), (4, .ref v4), (5, .ref v5), (6, .ref v6)]) hx hb dL_minutes_1 hl (by decide) rfl (fun ls hl9 => ?_)
  replace hl := hl9
  clear hl9
  refine lv_iconst (v := (0 : Int32)) hx hb dL_minutes_3 (by decide) ?_
  refine lv_istore (lv' := [(8, .int (0 : Int32)), (7, .int (0 : Int32)), (0, .int v0), (1, .ref v1), (2, .ref v2), (3, .ref v3), (4, .ref v4), (5, .ref v5), (6, .ref v6)]) hx hb dL_minutes_4 hl (by decide) rfl (fun ls hl9 => ?_)
  replace hl := hl9
  clear hl9
  obtain ⟨n, h⟩ := h
  exact t_L_minutes_6 v0 v1 v2 v3 v4 v5 v6 F hr K n (0 : Int32) (0 : Int32) u _ _ _ h hW (lv_sub hl [2, 3, 4, 5, 6, 7, 8, 1, 0] rfl)
set_option maxHeartbeats 4000000 in
set_option maxRecDepth 100000 in
theorem t_L_night_70 {p : Program} {l : Launch} {e : Env} {s : State} {m : MethodId} {below : List Frame} {meth : Method} {c : Code} {G : Ctx} (v0 : Nat) (v1 : Nat) (v2 : Nat) (F : Fx p l s m ([.ref v0, .ref v1, .ref v2]).toArray meth c cL_night 5 RL G) (hr : meth.sig.returnType = (some .int)) (K : Int32 → Mem → Prop) (J46 : Int32 → Int32 → Mem → Prop) (hJ46 : ∀ (v3 : Int32) (v4 : Int32) (u : Mem) (H : Heap) (locs : List Loc) (ls : Array Slot), J46 v3 v4 u → Wd G u s H locs → lv_has ls 5 [(0, .ref v0), (1, .ref v1), (2, .ref v2), (3, .int v3), (4, .int v4)] → W p l e { frames := 0, cells := 0, slots := 0, locals := 0 } s m ([.ref v0, .ref v1, .ref v2]).toArray below meth c H locs 0 0 (MQ below (va_Qi K (fun u' t => Wp G u' t.heap) (Ab G)) ([.ref v0, .ref v1, .ref v2]).toArray s 0 0 (Ab G)) (F0 m 46 ls [])) : ∀ (v4 : Int32) (s0 : Int32) (s1 : Int32) (u : Mem) (H : Heap) (locs : List Loc) (ls : Array Slot), w_L_night_70 G v0 v1 v2 K J46 v4 s0 s1 u → Wd G u s H locs → lv_has ls 5 [(0, .ref v0), (1, .ref v1), (2, .ref v2), (4, .int v4)] → W p l e { frames := 0, cells := 0, slots := 0, locals := 0 } s m ([.ref v0, .ref v1, .ref v2]).toArray below meth c H locs 0 0 (MQ below (va_Qi K (fun u' t => Wp G u' t.heap) (Ab G)) ([.ref v0, .ref v1, .ref v2]).toArray s 0 0 (Ab G)) (F0 m 70 ls [.int s0, .int s1]) := by
  have hx := F.1.1
  have hb := F.1.2.1
  intro v4 s0 s1 u H locs ls h hW hl
  unfold w_L_night_70 at h
  refine lv_iadd hx hb dL_night_70 ?_
  refine lv_istore_n (lv' := [(3, .int (s1 + s0)), (0, .ref v0), (1, .ref v1), (2, .ref v2), (4, .int v4)]) hx hb dL_night_71 rfl hl (by decide) rfl (fun ls hl9 => ?_)
  replace hl := hl9
  clear hl9
  refine lv_iinc (v := (v4 + 1)) (lv' := [(4, .int (v4 + 1)), (3, .int (s1 + s0)), (0, .ref v0), (1, .ref v1), (2, .ref v2)]) hx hb dL_night_72 hl (k := 4) rfl rfl (by decide) rfl (fun ls hl9 => ?_)
  replace hl := hl9
  clear hl9
  refine lv_goto (tgt := 46) hx hb dL_night_75 (by decide) ?_
  exact hJ46 (s1 + s0) (v4 + 1) u _ _ _ h hW (lv_sub hl [2, 3, 4, 1, 0] rfl)
set_option maxHeartbeats 4000000 in
set_option maxRecDepth 100000 in
theorem t_L_night_46 {p : Program} {l : Launch} {e : Env} {s : State} {m : MethodId} {below : List Frame} {meth : Method} {c : Code} {G : Ctx} (v0 : Nat) (v1 : Nat) (v2 : Nat) (F : Fx p l s m ([.ref v0, .ref v1, .ref v2]).toArray meth c cL_night 5 RL G) (hr : meth.sig.returnType = (some .int)) (K : Int32 → Mem → Prop) : ∀ (n : Nat), ∀ (v3 : Int32) (v4 : Int32) (u : Mem) (H : Heap) (locs : List Loc) (ls : Array Slot), w_L_night_46 G v0 v1 v2 K n v3 v4 u → Wd G u s H locs → lv_has ls 5 [(0, .ref v0), (1, .ref v1), (2, .ref v2), (3, .int v3), (4, .int v4)] → W p l e { frames := 0, cells := 0, slots := 0, locals := 0 } s m ([.ref v0, .ref v1, .ref v2]).toArray below meth c H locs 0 0 (MQ below (va_Qi K (fun u' t => Wp G u' t.heap) (Ab G)) ([.ref v0, .ref v1, .ref v2]).toArray s 0 0 (Ab G)) (F0 m 46 ls []) := by
  have hx := F.1.1
  have hb := F.1.2.1
  intro n
  induction n with
  | zero =>
    intro v3 v4 u H locs ls h hW hl
    exact h.elim
  | succ n hJ46 =>
    intro v3 v4 u H locs ls h hW hl
    have h : b_L_night_46 G v0 v1 v2 K (w_L_night_46 G v0 v1 v2 K n) v3 v4 u := h
    revert h
    generalize w_L_night_46 G v0 v1 v2 K n = J46 at hJ46 ⊢
    intro h
    unfold b_L_night_46 at h
    refine lv_iload hx hb dL_night_46 (lv_at hl 4 rfl) ?_
    refine lv_aload_n hx hb dL_night_48 rfl (lv_at hl 2 rfl) ?_
    refine lv_iconst (v := (3 : Int32)) hx hb dL_night_49 (by decide) ?_
    refine rIald F hW h.1 h.2.1 dL_night_50 ?_
    replace h := h.2.2
    refine lv_icmp_ge (tgt := 78) hx hb dL_night_51 (by decide) (fun hc13 => ?_) (fun hc13 => ?_)
    · have h := h.1 hc13
      refine lv_iload_n hx hb dL_night_78 rfl (lv_at hl 3 rfl) ?_
      exact retI F hr hW h dL_night_79
    · have h := h.2 hc13
      refine lv_iload_n hx hb dL_night_54 rfl (lv_at hl 3 rfl) ?_
      refine lv_aload_n hx hb dL_night_55 rfl (lv_at hl 1 rfl) ?_
      refine lv_iload hx hb dL_night_56 (lv_at hl 4 rfl) ?_
      refine rIald F hW h.1 h.2.1 dL_night_58 ?_
      replace h := h.2.2
      refine lv_aload_n hx hb dL_night_59 rfl (lv_at hl 2 rfl) ?_
      refine lv_iconst (v := (0 : Int32)) hx hb dL_night_60 (by decide) ?_
      refine rIald F hW h.1 h.2.1 dL_night_61 ?_
      replace h := h.2.2
      refine lv_icmp_ne (tgt := 69) hx hb dL_night_62 (by decide) (fun hc14 => ?_) (fun hc14 => ?_)
      · have h := h.2 hc14
        refine lv_iconst (v := (0 : Int32)) hx hb dL_night_69 (by decide) ?_
        exact t_L_night_70 v0 v1 v2 F hr K J46 hJ46 v4 (0 : Int32) v3 u _ _ _ h hW (lv_sub hl [0, 1, 2, 4] rfl)
      · have h := h.1 hc14
        refine lv_iconst (v := (1 : Int32)) hx hb dL_night_65 (by decide) ?_
        refine lv_goto (tgt := 70) hx hb dL_night_66 (by decide) ?_
        exact t_L_night_70 v0 v1 v2 F hr K J46 hJ46 v4 (1 : Int32) v3 u _ _ _ h hW (lv_sub hl [0, 1, 2, 4] rfl)
set_option maxHeartbeats 4000000 in
set_option maxRecDepth 100000 in
theorem t_L_night_2 {p : Program} {l : Launch} {e : Env} {s : State} {m : MethodId} {below : List Frame} {meth : Method} {c : Code} {G : Ctx} (v0 : Nat) (v1 : Nat) (v2 : Nat) (F : Fx p l s m ([.ref v0, .ref v1, .ref v2]).toArray meth c cL_night 5 RL G) (hr : meth.sig.returnType = (some .int)) (K : Int32 → Mem → Prop) : ∀ (n : Nat), ∀ (v3 : Int32) (u : Mem) (H : Heap) (locs : List Loc) (ls : Array Slot), w_L_night_2 G v0 v1 v2 K n v3 u → Wd G u s H locs → lv_has ls 5 [(0, .ref v0), (1, .ref v1), (2, .ref v2), (3, .int v3)] → W p l e { frames := 0, cells := 0, slots := 0, locals := 0 } s m ([.ref v0, .ref v1, .ref v2]).toArray below meth c H locs 0 0 (MQ below (va_Qi K (fun u' t => Wp G u' t.heap) (Ab G)) ([.ref v0, .ref v1, .ref v2]).toArray s 0 0 (Ab G)) (F0 m 2 ls []) := by
  have hx := F.1.1
  have hb := F.1.2.1
  intro n
  induction n with
  | zero =>
    intro v3 u H locs ls h hW hl
    exact h.elim
  | succ n hJ2 =>
    intro v3 u H locs ls h hW hl
    have h : b_L_night_2 G v0 v1 v2 K (w_L_night_2 G v0 v1 v2 K n) v3 u := h
    revert h
    generalize w_L_night_2 G v0 v1 v2 K n = J2 at hJ2 ⊢
    intro h
    unfold b_L_night_2 at h
    refine lv_iload_n hx hb dL_night_2 rfl (lv_at hl 3 rfl) ?_
    refine lv_aload_n hx hb dL_night_3 rfl (lv_at hl 2 rfl) ?_
    refine lv_iconst (v := (2 : Int32)) hx hb dL_night_4 (by decide) ?_
    refine rIald F hW h.1 h.2.1 dL_night_5 ?_
    replace h := h.2.2
    refine lv_icmp_ge (tgt := 30) hx hb dL_night_6 (by decide) (fun hc15 => ?_) (fun hc15 => ?_)
    · have h := h.1 hc15
      refine lv_iconst (v := (0 : Int32)) hx hb dL_night_30 (by decide) ?_
      refine lv_istore_n (lv' := [(3, .int (0 : Int32)), (0, .ref v0), (1, .ref v1), (2, .ref v2)]) hx hb dL_night_31 rfl hl (by decide) rfl (fun ls hl9 => ?_)
      replace hl := hl9
      clear hl9
      refine lv_aload_n hx hb dL_night_32 rfl (lv_at hl 3 rfl) ?_
      refine lv_iconst (v := (0 : Int32)) hx hb dL_night_33 (by decide) ?_
      refine lv_dup2_11 hx hb dL_night_34 rfl rfl ?_
      refine rIald F hW h.1 h.2.1 dL_night_35 ?_
      replace h := h.2.2
      refine lv_iconst (v := (1 : Int32)) hx hb dL_night_36 (by decide) ?_
      refine lv_iadd hx hb dL_night_37 ?_
      refine rIast F hW h.1 h.2.1 dL_night_38 (fun H locs hW => ?_)
      replace h := h.2.2
      obtain ⟨u16, eu⟩ : ∃ z, z = setA u v2 ((0 : Int32).toNatClampNeg) ((mA u v2 (0 : Int32).toNatClampNeg) + (1 : Int32)) := ⟨_, rfl⟩
      rw [← eu] at hW
      replace h := h u16 eu
      clear eu
      refine lv_aload_n hx hb dL_night_39 rfl (lv_at hl 3 rfl) ?_
      refine lv_iconst (v := (1 : Int32)) hx hb dL_night_40 (by decide) ?_
      refine lv_iconst (v := (0 : Int32)) hx hb dL_night_41 (by decide) ?_
      refine rIast F hW h.1 h.2.1 dL_night_42 (fun H locs hW => ?_)
      replace h := h.2.2
      obtain ⟨u17, eu⟩ : ∃ z, z = setA u16 v2 ((1 : Int32).toNatClampNeg) (0 : Int32) := ⟨_, rfl⟩
      rw [← eu] at hW
      replace h := h u17 eu
      clear eu
      refine lv_iconst (v := (0 : Int32)) hx hb dL_night_43 (by decide) ?_
      refine lv_istore (lv' := [(4, .int (0 : Int32)), (3, .int (0 : Int32)), (0, .ref v0), (1, .ref v1), (2, .ref v2)]) hx hb dL_night_44 hl (by decide) rfl (fun ls hl9 => ?_)
      replace hl := hl9
      clear hl9
      obtain ⟨n, h⟩ := h
      exact t_L_night_46 v0 v1 v2 F hr K n (0 : Int32) (0 : Int32) u17 _ _ _ h hW (lv_sub hl [2, 3, 4, 1, 0] rfl)
    · have h := h.2 hc15
      refine lv_aload_n hx hb dL_night_9 rfl (lv_at hl 0 rfl) ?_
      refine lv_bipush (v := (6 : Int32)) hx hb dL_night_10 (by decide) ?_
      refine lv_iload_n hx hb dL_night_12 rfl (lv_at hl 3 rfl) ?_
      refine lv_imul hx hb dL_night_13 ?_
      refine lv_iconst (v := (2 : Int32)) hx hb dL_night_14 (by decide) ?_
      refine lv_iadd hx hb dL_night_15 ?_
      refine rIald F hW h.1 h.2.1 dL_night_16 ?_
      replace h := h.2.2
      refine lv_iconst (v := (3 : Int32)) hx hb dL_night_17 (by decide) ?_
      refine lv_icmp_ge (tgt := 24) hx hb dL_night_18 (by decide) (fun hc18 => ?_) (fun hc18 => ?_)
      · have h := h.1 hc18
        refine lv_iinc (v := (v3 + 1)) (lv' := [(3, .int (v3 + 1)), (0, .ref v0), (1, .ref v1), (2, .ref v2)]) hx hb dL_night_24 hl (k := 3) rfl rfl (by decide) rfl (fun ls hl9 => ?_)
        replace hl := hl9
        clear hl9
        refine lv_goto (tgt := 2) hx hb dL_night_27 (by decide) ?_
        exact hJ2 (v3 + 1) u _ _ _ h hW (lv_sub hl [1, 2, 3, 0] rfl)
      · have h := h.2 hc18
        refine lv_bipush (v := (-3 : Int32)) hx hb dL_night_21 (by decide) ?_
        exact retI F hr hW h dL_night_23
set_option maxHeartbeats 4000000 in
set_option maxRecDepth 100000 in
theorem c_L_night {l : Launch} (hst : l.stackTraces = false) (G : Ctx) (v0 : Nat) (v1 : Nat) (v2 : Nat) (u : Mem) (K : Int32 → Mem → Prop) (h : w_L_night G v0 v1 v2 u K) : CtI l yL_night (.code yL_night cL_night 5 (some .int)) 0 0 0 0 G [.ref v0, .ref v1, .ref v2] u K := by
  refine entM (by first | decide | decide +kernel) hst (by first | decide | exact Nat.le_of_ble_eq_true rfl) (fun p e s m below meth c ls F hr hnm hW hl => ?_)
  have F : Fx p l s m ([.ref v0, .ref v1, .ref v2]).toArray meth c cL_night 5 RL G := F
  have hnm : meth.name = "night" := hnm
  have hl : lv_has ls 5 [(0, .ref v0), (1, .ref v1), (2, .ref v2)] := hl
  have hx := F.1.1
  have hb := F.1.2.1
  unfold w_L_night at h
  refine lv_iconst (v := (0 : Int32)) hx hb dL_night_0 (by decide) ?_
  refine lv_istore_n (lv' := [(3, .int (0 : Int32)), (0, .ref v0), (1, .ref v1), (2, .ref v2)]) hx hb dL_night_1 rfl hl (by decide) rfl (fun ls hl9 => ?_)
  replace hl := hl9
  clear hl9
  obtain ⟨n, h⟩ := h
  exact t_L_night_2 v0 v1 v2 F hr K n (0 : Int32) u _ _ _ h hW (lv_sub hl [1, 2, 3, 0] rfl)
set_option maxHeartbeats 4000000 in
set_option maxRecDepth 100000 in
theorem t_L_streets_82 {p : Program} {l : Launch} {e : Env} {s : State} {m : MethodId} {below : List Frame} {meth : Method} {c : Code} {G : Ctx} (v0 : Nat) (v1 : Int32) (v2 : Int32) (v3 : Nat) (MC MS : Nat) (F : Fx p l s m ([.ref v0, .int v1, .int v2, .ref v3]).toArray meth c cL_streets 7 RL G) (hr : meth.sig.returnType = (some .boolean)) (K : Int32 → Mem → Prop) : ∀ (v4 : Int32) (v5 : Int32) (v6 : Int32) (s0 : Int32) (s1 : Int32) (s2 : Int32) (s3 : Nat) (mc ms : Nat) (u : Mem) (H : Heap) (locs : List Loc) (cells slots : Nat) (ls : Array Slot), w_L_streets_82 G v0 v1 v2 v3 K v4 v5 v6 s0 s1 s2 s3 mc ms u → Wd G u s H locs → lv_has ls 7 [(0, .ref v0), (1, .int v1), (2, .int v2), (3, .ref v3), (4, .int v4), (5, .int v5), (6, .int v6)] → cells + mc = MC → slots + ms = MS → W p l e { frames := 7, cells := MC, slots := MS, locals := 125 } s m ([.ref v0, .int v1, .int v2, .ref v3]).toArray below meth c H locs cells slots (MQ below (va_Qi K (fun u' t => Wp G u' t.heap) (Ab G)) ([.ref v0, .int v1, .int v2, .ref v3]).toArray s MC MS (Ab G)) (F0 m 82 ls [.int s0, .int s1, .int s2, .ref s3]) := by
  have hx := F.1.1
  have hb := F.1.2.1
  intro v4 v5 v6 s0 s1 s2 s3 mc ms u H locs cells slots ls h hW hl hbc hbs
  unfold w_L_streets_82 at h
  refine lv_iadd hx hb dL_streets_82 ?_
  refine rIast F hW h.1 h.2.1 dL_streets_83 (fun H locs hW => ?_)
  replace h := h.2.2
  obtain ⟨u82, eu⟩ : ∃ z, z = setA u s3 (s2.toNatClampNeg) (s1 + s0) := ⟨_, rfl⟩
  rw [← eu] at hW
  replace h := h u82 eu
  clear eu
  refine lv_iload hx hb dL_streets_84 (lv_at hl 6 rfl) ?_
  refine lv_if_eq (tgt := 107) hx hb dL_streets_86 (by decide) (fun hc83 => ?_) (fun hc83 => ?_)
  · have h := h.1 hc83
    refine lv_iconst (v := (1 : Int32)) hx hb dL_streets_107 (by decide) ?_
    refine lv_goto (tgt := 112) hx hb dL_streets_108 (by decide) ?_
    refine W.widen (k := MC) (n := MS) (Nat.le.intro hbc) (Nat.le.intro hbs) ?_
    exact retZ F hr hW h.1 h.2 dL_streets_112
  · have h := h.2 hc83
    refine lv_aload_n hx hb dL_streets_89 rfl (lv_at hl 0 rfl) ?_
    refine lv_iload hx hb dL_streets_90 (lv_at hl 4 rfl) ?_
    refine lv_iload hx hb dL_streets_92 (lv_at hl 5 rfl) ?_
    obtain ⟨c86, b87, h1, h2, h⟩ := h
    have hf1 := bdf hbc h1
    have hf2 := bdf hbs h2
    obtain ⟨hob, h⟩ := h
    refine cX (runX (n := 2) (As := [.int v4, .int v5]) (rest := []) F hW (c_X5_pay F.2.2.2 G v0 v4 v5 c86 b87 u82 _ _ h) hob (ci := 6) rfl q_164 q_165 q_166 q_2 q_167 rfl (by decide +kernel) ⟨Nat.le_of_ble_eq_true rfl, Nat.le_of_ble_eq_true rfl⟩ dL_streets_94 rfl hl.1 (Nat.le_of_ble_eq_true rfl) ⟨hf1, hf2⟩) hW (fun r85 u84 h9 H locs hW => ?_) (fun E u84 h9 H locs hW => ?_)
    · replace h := h9
      clear h9
      replace hbc := bdg hbc h1
      replace hbs := bdg hbs h2
      clear h1 h2 hf1 hf2
      refine lv_aload_n hx hb dL_streets_97 rfl (lv_at hl 3 rfl) ?_
      refine lv_bipush (v := (6 : Int32)) hx hb dL_streets_98 (by decide) ?_
      refine lv_iload hx hb dL_streets_100 (lv_at hl 4 rfl) ?_
      refine lv_imul hx hb dL_streets_102 ?_
      refine rIald F hW h.1 h.2.1 dL_streets_103 ?_
      replace h := h.2.2
      refine lv_icmp_ne (tgt := 111) hx hb dL_streets_104 (by decide) (fun hc88 => ?_) (fun hc88 => ?_)
      · have h := h.2 hc88
        refine lv_iconst (v := (0 : Int32)) hx hb dL_streets_111 (by decide) ?_
        refine W.widen (k := MC) (n := MS) (Nat.le.intro hbc) (Nat.le.intro hbs) ?_
        exact retZ F hr hW h.1 h.2 dL_streets_112
      · have h := h.1 hc88
        refine lv_iconst (v := (1 : Int32)) hx hb dL_streets_107 (by decide) ?_
        refine lv_goto (tgt := 112) hx hb dL_streets_108 (by decide) ?_
        refine W.widen (k := MC) (n := MS) (Nat.le.intro hbc) (Nat.le.intro hbs) ?_
        exact retZ F hr hW h.1 h.2 dL_streets_112
    · exact h9.elim
set_option maxHeartbeats 4000000 in
set_option maxRecDepth 100000 in
theorem t_L_streets_61 {p : Program} {l : Launch} {e : Env} {s : State} {m : MethodId} {below : List Frame} {meth : Method} {c : Code} {G : Ctx} (v0 : Nat) (v1 : Int32) (v2 : Int32) (v3 : Nat) (MC MS : Nat) (F : Fx p l s m ([.ref v0, .int v1, .int v2, .ref v3]).toArray meth c cL_streets 7 RL G) (hr : meth.sig.returnType = (some .boolean)) (K : Int32 → Mem → Prop) : ∀ (v4 : Int32) (v5 : Int32) (s0 : Int32) (mc ms : Nat) (u : Mem) (H : Heap) (locs : List Loc) (cells slots : Nat) (ls : Array Slot), w_L_streets_61 G v0 v1 v2 v3 K v4 v5 s0 mc ms u → Wd G u s H locs → lv_has ls 7 [(0, .ref v0), (1, .int v1), (2, .int v2), (3, .ref v3), (4, .int v4), (5, .int v5)] → cells + mc = MC → slots + ms = MS → W p l e { frames := 7, cells := MC, slots := MS, locals := 125 } s m ([.ref v0, .int v1, .int v2, .ref v3]).toArray below meth c H locs cells slots (MQ below (va_Qi K (fun u' t => Wp G u' t.heap) (Ab G)) ([.ref v0, .int v1, .int v2, .ref v3]).toArray s MC MS (Ab G)) (F0 m 61 ls [.int s0]) := by
  have hx := F.1.1
  have hb := F.1.2.1
  intro v4 v5 s0 mc ms u H locs cells slots ls h hW hl hbc hbs
  unfold w_L_streets_61 at h
  refine lv_istore (lv' := [(6, .int s0), (0, .ref v0), (1, .int v1), (2, .int v2), (3, .ref v3), (4, .int v4), (5, .int v5)]) hx hb dL_streets_61 hl (by decide) rfl (fun ls hl9 => ?_)
  replace hl := hl9
  clear hl9
  refine lv_aload_n hx hb dL_streets_63 rfl (lv_at hl 4 rfl) ?_
  refine lv_bipush (v := (6 : Int32)) hx hb dL_streets_64 (by decide) ?_
  refine lv_iload hx hb dL_streets_66 (lv_at hl 5 rfl) ?_
  refine lv_imul hx hb dL_streets_68 ?_
  refine lv_dup2_11 hx hb dL_streets_69 rfl rfl ?_
  refine rIald F hW h.1 h.2.1 dL_streets_70 ?_
  replace h := h.2.2
  refine lv_iload hx hb dL_streets_71 (lv_at hl 0 rfl) ?_
  refine lv_if_eq (tgt := 81) hx hb dL_streets_73 (by decide) (fun hc89 => ?_) (fun hc89 => ?_)
  · have h := h.1 hc89
    refine lv_iconst (v := (0 : Int32)) hx hb dL_streets_81 (by decide) ?_
    exact t_L_streets_82 v0 v1 v2 v3 MC MS F hr K v4 v5 s0 (0 : Int32) (mA u v3 ((6 : Int32) * v4).toNatClampNeg) ((6 : Int32) * v4) v3 mc ms u _ _ _ _ _ h hW (lv_sub hl [1, 2, 3, 4, 5, 6, 0] rfl) hbc hbs
  · have h := h.2 hc89
    refine lv_iload hx hb dL_streets_76 (lv_at hl 6 rfl) ?_
    refine lv_goto (tgt := 82) hx hb dL_streets_78 (by decide) ?_
    exact t_L_streets_82 v0 v1 v2 v3 MC MS F hr K v4 v5 s0 v5 (mA u v3 ((6 : Int32) * v4).toNatClampNeg) ((6 : Int32) * v4) v3 mc ms u _ _ _ _ _ h hW (lv_sub hl [1, 2, 3, 4, 5, 6, 0] rfl) hbc hbs
set_option maxHeartbeats 4000000 in
set_option maxRecDepth 100000 in
theorem t_L_streets_35 {p : Program} {l : Launch} {e : Env} {s : State} {m : MethodId} {below : List Frame} {meth : Method} {c : Code} {G : Ctx} (v0 : Nat) (v1 : Int32) (v2 : Int32) (v3 : Nat) (MC MS : Nat) (F : Fx p l s m ([.ref v0, .int v1, .int v2, .ref v3]).toArray meth c cL_streets 7 RL G) (hr : meth.sig.returnType = (some .boolean)) (K : Int32 → Mem → Prop) : ∀ (v4 : Int32) (s0 : Int32) (s1 : Int32) (s2 : Int32) (mc ms : Nat) (u : Mem) (H : Heap) (locs : List Loc) (cells slots : Nat) (ls : Array Slot), w_L_streets_35 G v0 v1 v2 v3 K v4 s0 s1 s2 mc ms u → Wd G u s H locs → lv_has ls 7 [(0, .ref v0), (1, .int v1), (2, .int v2), (3, .ref v3), (4, .int v4)] → cells + mc = MC → slots + ms = MS → W p l e { frames := 7, cells := MC, slots := MS, locals := 125 } s m ([.ref v0, .int v1, .int v2, .ref v3]).toArray below meth c H locs cells slots (MQ below (va_Qi K (fun u' t => Wp G u' t.heap) (Ab G)) ([.ref v0, .int v1, .int v2, .ref v3]).toArray s MC MS (Ab G)) (F0 m 35 ls [.int s0, .int s1, .int s2]) := by
  have hx := F.1.1
  have hb := F.1.2.1
  intro v4 s0 s1 s2 mc ms u H locs cells slots ls h hW hl hbc hbs
  unfold w_L_streets_35 at h
  refine cI (runS (n := 2) (As := [.int s1, .int s0]) (rest := [.int s2]) F hW (c_L_low F.2.2.2 G s1 s0 u _ h) q_72 q_73 q_68 q_74 (by decide +kernel) ⟨Nat.le_of_ble_eq_true rfl, Nat.le_of_ble_eq_true rfl⟩ dL_streets_35 rfl hl.1 (Nat.le_of_ble_eq_true rfl) ⟨Nat.le.intro hbc, Nat.le.intro hbs⟩) hW (fun r91 u90 h9 H locs hW => ?_)
  replace h := h9
  clear h9
  refine lv_iadd hx hb dL_streets_38 ?_
  refine lv_istore (lv' := [(5, .int (s2 + r91)), (0, .ref v0), (1, .int v1), (2, .int v2), (3, .ref v3), (4, .int v4)]) hx hb dL_streets_39 hl (by decide) rfl (fun ls hl9 => ?_)
  replace hl := hl9
  clear hl9
  refine lv_aload_n hx hb dL_streets_41 rfl (lv_at hl 4 rfl) ?_
  refine lv_bipush (v := (6 : Int32)) hx hb dL_streets_42 (by decide) ?_
  refine lv_iload hx hb dL_streets_44 (lv_at hl 5 rfl) ?_
  refine lv_imul hx hb dL_streets_46 ?_
  refine rIald F hW h.1 h.2.1 dL_streets_47 ?_
  replace h := h.2.2
  refine lv_iload hx hb dL_streets_48 (lv_at hl 0 rfl) ?_
  refine lv_iadd hx hb dL_streets_50 ?_
  refine lv_ldc hx hb F.1.2.2.2.1 (F.1.2.2.2.2 _ q_163) dL_streets_51 ?_
  refine lv_icmp_gt (tgt := 60) hx hb dL_streets_53 (by decide) (fun hc92 => ?_) (fun hc92 => ?_)
  · have h := h.1 hc92
    refine lv_iconst (v := (0 : Int32)) hx hb dL_streets_60 (by decide) ?_
    exact t_L_streets_61 v0 v1 v2 v3 MC MS F hr K v4 (s2 + r91) (0 : Int32) mc ms u90 _ _ _ _ _ h hW (lv_sub hl [1, 2, 3, 4, 5, 0] rfl) hbc hbs
  · have h := h.2 hc92
    refine lv_iconst (v := (1 : Int32)) hx hb dL_streets_56 (by decide) ?_
    refine lv_goto (tgt := 61) hx hb dL_streets_57 (by decide) ?_
    exact t_L_streets_61 v0 v1 v2 v3 MC MS F hr K v4 (s2 + r91) (1 : Int32) mc ms u90 _ _ _ _ _ h hW (lv_sub hl [1, 2, 3, 4, 5, 0] rfl) hbc hbs
set_option maxHeartbeats 4000000 in
set_option maxRecDepth 100000 in
theorem t_L_streets_208 {p : Program} {l : Launch} {e : Env} {s : State} {m : MethodId} {below : List Frame} {meth : Method} {c : Code} {G : Ctx} (v0 : Nat) (v1 : Int32) (v2 : Int32) (v3 : Nat) (MC MS : Nat) (F : Fx p l s m ([.ref v0, .int v1, .int v2, .ref v3]).toArray meth c cL_streets 7 RL G) (hr : meth.sig.returnType = (some .boolean)) (K : Int32 → Mem → Prop) : ∀ (v5 : Int32) (s0 : Int32) (s1 : Int32) (s2 : Int32) (s3 : Nat) (mc ms : Nat) (u : Mem) (H : Heap) (locs : List Loc) (cells slots : Nat) (ls : Array Slot), w_L_streets_208 G v0 v1 v2 v3 K v5 s0 s1 s2 s3 mc ms u → Wd G u s H locs → lv_has ls 7 [(0, .ref v0), (1, .int v1), (2, .int v2), (3, .ref v3), (5, .int v5)] → cells + mc = MC → slots + ms = MS → W p l e { frames := 7, cells := MC, slots := MS, locals := 125 } s m ([.ref v0, .int v1, .int v2, .ref v3]).toArray below meth c H locs cells slots (MQ below (va_Qi K (fun u' t => Wp G u' t.heap) (Ab G)) ([.ref v0, .int v1, .int v2, .ref v3]).toArray s MC MS (Ab G)) (F0 m 208 ls [.int s0, .int s1, .int s2, .ref s3]) := by
  have hx := F.1.1
  have hb := F.1.2.1
  intro v5 s0 s1 s2 s3 mc ms u H locs cells slots ls h hW hl hbc hbs
  unfold w_L_streets_208 at h
  obtain ⟨c95, b96, h1, h2, h⟩ := h
  have hf1 := bdf hbc h1
  have hf2 := bdf hbs h2
  obtain ⟨hob, h⟩ := h
  refine cX (runX (n := 3) (As := [.int s2, .int s1, .int s0]) (rest := []) F hW (c_X5_setStreet F.2.2.2 G s3 s2 s1 s0 c95 b96 u _ _ h) hob (ci := 6) rfl q_173 q_174 q_175 q_2 q_176 rfl (by decide +kernel) ⟨Nat.le_of_ble_eq_true rfl, Nat.le_of_ble_eq_true rfl⟩ dL_streets_208 rfl hl.1 (Nat.le_of_ble_eq_true rfl) ⟨hf1, hf2⟩) hW (fun r94 u93 h9 H locs hW => ?_) (fun E u93 h9 H locs hW => ?_)
  · replace h := h9
    clear h9
    replace hbc := bdg hbc h1
    replace hbs := bdg hbs h2
    clear h1 h2 hf1 hf2
    refine lv_iload hx hb dL_streets_211 (lv_at hl 4 rfl) ?_
    refine lv_icmp_ne (tgt := 220) hx hb dL_streets_213 (by decide) (fun hc97 => ?_) (fun hc97 => ?_)
    · have h := h.2 hc97
      refine lv_iconst (v := (0 : Int32)) hx hb dL_streets_220 (by decide) ?_
      refine W.widen (k := MC) (n := MS) (Nat.le.intro hbc) (Nat.le.intro hbs) ?_
      exact retZ F hr hW h.1 h.2 dL_streets_221
    · have h := h.1 hc97
      refine lv_iconst (v := (1 : Int32)) hx hb dL_streets_216 (by decide) ?_
      refine lv_goto (tgt := 221) hx hb dL_streets_217 (by decide) ?_
      refine W.widen (k := MC) (n := MS) (Nat.le.intro hbc) (Nat.le.intro hbs) ?_
      exact retZ F hr hW h.1 h.2 dL_streets_221
  · exact h9.elim
set_option maxHeartbeats 4000000 in
set_option maxRecDepth 100000 in
theorem t_L_streets_157 {p : Program} {l : Launch} {e : Env} {s : State} {m : MethodId} {below : List Frame} {meth : Method} {c : Code} {G : Ctx} (v0 : Nat) (v1 : Int32) (v2 : Int32) (v3 : Nat) (MC MS : Nat) (F : Fx p l s m ([.ref v0, .int v1, .int v2, .ref v3]).toArray meth c cL_streets 7 RL G) (hr : meth.sig.returnType = (some .boolean)) (K : Int32 → Mem → Prop) : ∀ (v4 : Int32) (v5 : Int32) (s0 : Int32) (s1 : Int32) (s2 : Int32) (s3 : Nat) (mc ms : Nat) (u : Mem) (H : Heap) (locs : List Loc) (cells slots : Nat) (ls : Array Slot), w_L_streets_157 G v0 v1 v2 v3 K v4 v5 s0 s1 s2 s3 mc ms u → Wd G u s H locs → lv_has ls 7 [(0, .ref v0), (1, .int v1), (2, .int v2), (3, .ref v3), (4, .int v4), (5, .int v5)] → cells + mc = MC → slots + ms = MS → W p l e { frames := 7, cells := MC, slots := MS, locals := 125 } s m ([.ref v0, .int v1, .int v2, .ref v3]).toArray below meth c H locs cells slots (MQ below (va_Qi K (fun u' t => Wp G u' t.heap) (Ab G)) ([.ref v0, .int v1, .int v2, .ref v3]).toArray s MC MS (Ab G)) (F0 m 157 ls [.int s0, .int s1, .int s2, .ref s3]) := by
  have hx := F.1.1
  have hb := F.1.2.1
  intro v4 v5 s0 s1 s2 s3 mc ms u H locs cells slots ls h hW hl hbc hbs
  unfold w_L_streets_157 at h
  refine cI (runS (n := 2) (As := [.int s1, .int s0]) (rest := [.int s2, .ref s3]) F hW (c_L_low F.2.2.2 G s1 s0 u _ h) q_72 q_73 q_68 q_74 (by decide +kernel) ⟨Nat.le_of_ble_eq_true rfl, Nat.le_of_ble_eq_true rfl⟩ dL_streets_157 rfl hl.1 (Nat.le_of_ble_eq_true rfl) ⟨Nat.le.intro hbc, Nat.le.intro hbs⟩) hW (fun r99 u98 h9 H locs hW => ?_)
  replace h := h9
  clear h9
  refine rIast F hW h.1 h.2.1 dL_streets_160 (fun H locs hW => ?_)
  replace h := h.2.2
  obtain ⟨u100, eu⟩ : ∃ z, z = setA u98 s3 (s2.toNatClampNeg) r99 := ⟨_, rfl⟩
  rw [← eu] at hW
  replace h := h u100 eu
  clear eu
  refine lv_aload_n hx hb dL_streets_161 rfl (lv_at hl 3 rfl) ?_
  refine lv_bipush (v := (6 : Int32)) hx hb dL_streets_162 (by decide) ?_
  refine lv_iload hx hb dL_streets_164 (lv_at hl 4 rfl) ?_
  refine lv_imul hx hb dL_streets_166 ?_
  refine lv_iconst (v := (2 : Int32)) hx hb dL_streets_167 (by decide) ?_
  refine lv_iadd hx hb dL_streets_168 ?_
  refine lv_iload_n hx hb dL_streets_169 rfl (lv_at hl 2 rfl) ?_
  refine lv_bipush (v := (8 : Int32)) hx hb dL_streets_170 (by decide) ?_
  refine lv_ishr hx hb dL_streets_172 ?_
  refine lv_iconst (v := (2 : Int32)) hx hb dL_streets_173 (by decide) ?_
  refine cI (runS (n := 2) (As := [.int (v2 >>> ((8 : Int32) &&& 31)), .int (2 : Int32)]) (rest := [.int (((6 : Int32) * v4) + (2 : Int32)), .ref v3]) F hW (c_L_low F.2.2.2 G (v2 >>> ((8 : Int32) &&& 31)) (2 : Int32) u100 _ h) q_72 q_73 q_68 q_74 (by decide +kernel) ⟨Nat.le_of_ble_eq_true rfl, Nat.le_of_ble_eq_true rfl⟩ dL_streets_174 rfl hl.1 (Nat.le_of_ble_eq_true rfl) ⟨Nat.le.intro hbc, Nat.le.intro hbs⟩) hW (fun r102 u101 h9 H locs hW => ?_)
  replace h := h9
  clear h9
  refine rIast F hW h.1 h.2.1 dL_streets_177 (fun H locs hW => ?_)
  replace h := h.2.2
  obtain ⟨u103, eu⟩ : ∃ z, z = setA u101 v3 ((((6 : Int32) * v4) + (2 : Int32)).toNatClampNeg) r102 := ⟨_, rfl⟩
  rw [← eu] at hW
  replace h := h u103 eu
  clear eu
  refine lv_aload_n hx hb dL_streets_178 rfl (lv_at hl 0 rfl) ?_
  refine lv_iload hx hb dL_streets_179 (lv_at hl 4 rfl) ?_
  refine lv_aload_n hx hb dL_streets_181 rfl (lv_at hl 3 rfl) ?_
  refine lv_bipush (v := (6 : Int32)) hx hb dL_streets_182 (by decide) ?_
  refine lv_iload hx hb dL_streets_184 (lv_at hl 4 rfl) ?_
  refine lv_imul hx hb dL_streets_186 ?_
  refine lv_iconst (v := (1 : Int32)) hx hb dL_streets_187 (by decide) ?_
  refine lv_iadd hx hb dL_streets_188 ?_
  refine rIald F hW h.1 h.2.1 dL_streets_189 ?_
  replace h := h.2.2
  refine lv_aload_n hx hb dL_streets_190 rfl (lv_at hl 3 rfl) ?_
  refine lv_bipush (v := (6 : Int32)) hx hb dL_streets_191 (by decide) ?_
  refine lv_iload hx hb dL_streets_193 (lv_at hl 4 rfl) ?_
  refine lv_imul hx hb dL_streets_195 ?_
  refine lv_iconst (v := (2 : Int32)) hx hb dL_streets_196 (by decide) ?_
  refine lv_iadd hx hb dL_streets_197 ?_
  refine rIald F hW h.1 h.2.1 dL_streets_198 ?_
  replace h := h.2.2
  refine lv_iconst (v := (1 : Int32)) hx hb dL_streets_199 (by decide) ?_
  refine lv_icmp_ne (tgt := 207) hx hb dL_streets_200 (by decide) (fun hc104 => ?_) (fun hc104 => ?_)
  · have h := h.2 hc104
    refine lv_iconst (v := (0 : Int32)) hx hb dL_streets_207 (by decide) ?_
    exact t_L_streets_208 v0 v1 v2 v3 MC MS F hr K v5 (0 : Int32) (mA u103 v3 (((6 : Int32) * v4) + (1 : Int32)).toNatClampNeg) v4 v0 mc ms u103 _ _ _ _ _ h hW (lv_sub hl [0, 1, 2, 3, 5] rfl) hbc hbs
  · have h := h.1 hc104
    refine lv_iconst (v := (1 : Int32)) hx hb dL_streets_203 (by decide) ?_
    refine lv_goto (tgt := 208) hx hb dL_streets_204 (by decide) ?_
    exact t_L_streets_208 v0 v1 v2 v3 MC MS F hr K v5 (1 : Int32) (mA u103 v3 (((6 : Int32) * v4) + (1 : Int32)).toNatClampNeg) v4 v0 mc ms u103 _ _ _ _ _ h hW (lv_sub hl [0, 1, 2, 3, 5] rfl) hbc hbs
set_option maxHeartbeats 4000000 in
set_option maxRecDepth 100000 in
theorem t_L_streets_263 {p : Program} {l : Launch} {e : Env} {s : State} {m : MethodId} {below : List Frame} {meth : Method} {c : Code} {G : Ctx} (v0 : Nat) (v1 : Int32) (v2 : Int32) (v3 : Nat) (MC MS : Nat) (F : Fx p l s m ([.ref v0, .int v1, .int v2, .ref v3]).toArray meth c cL_streets 7 RL G) (hr : meth.sig.returnType = (some .boolean)) (K : Int32 → Mem → Prop) : ∀ (v4 : Int32) (v5 : Int32) (s0 : Int32) (s1 : Int32) (s2 : Int32) (s3 : Int32) (s4 : Nat) (mc ms : Nat) (u : Mem) (H : Heap) (locs : List Loc) (cells slots : Nat) (ls : Array Slot), w_L_streets_263 G v0 v1 v2 v3 K v4 v5 s0 s1 s2 s3 s4 mc ms u → Wd G u s H locs → lv_has ls 7 [(0, .ref v0), (1, .int v1), (2, .int v2), (3, .ref v3), (4, .int v4), (5, .int v5)] → cells + mc = MC → slots + ms = MS → W p l e { frames := 7, cells := MC, slots := MS, locals := 125 } s m ([.ref v0, .int v1, .int v2, .ref v3]).toArray below meth c H locs cells slots (MQ below (va_Qi K (fun u' t => Wp G u' t.heap) (Ab G)) ([.ref v0, .int v1, .int v2, .ref v3]).toArray s MC MS (Ab G)) (F0 m 263 ls [.int s0, .int s1, .int s2, .int s3, .ref s4]) := by
  have hx := F.1.1
  have hb := F.1.2.1
  intro v4 v5 s0 s1 s2 s3 s4 mc ms u H locs cells slots ls h hW hl hbc hbs
  unfold w_L_streets_263 at h
  refine cI (runS (n := 2) (As := [.int s1, .int s0]) (rest := [.int s2, .int s3, .ref s4]) F hW (c_L_low F.2.2.2 G s1 s0 u _ h) q_72 q_73 q_68 q_74 (by decide +kernel) ⟨Nat.le_of_ble_eq_true rfl, Nat.le_of_ble_eq_true rfl⟩ dL_streets_263 rfl hl.1 (Nat.le_of_ble_eq_true rfl) ⟨Nat.le.intro hbc, Nat.le.intro hbs⟩) hW (fun r106 u105 h9 H locs hW => ?_)
  replace h := h9
  clear h9
  refine lv_iadd hx hb dL_streets_266 ?_
  refine rIast F hW h.1 h.2.1 dL_streets_267 (fun H locs hW => ?_)
  replace h := h.2.2
  obtain ⟨u107, eu⟩ : ∃ z, z = setA u105 s4 (s3.toNatClampNeg) (s2 + r106) := ⟨_, rfl⟩
  rw [← eu] at hW
  replace h := h u107 eu
  clear eu
  refine lv_aload_n hx hb dL_streets_268 rfl (lv_at hl 0 rfl) ?_
  refine lv_iload hx hb dL_streets_269 (lv_at hl 4 rfl) ?_
  refine lv_iload hx hb dL_streets_271 (lv_at hl 5 rfl) ?_
  refine lv_aload_n hx hb dL_streets_273 rfl (lv_at hl 3 rfl) ?_
  refine lv_bipush (v := (6 : Int32)) hx hb dL_streets_274 (by decide) ?_
  refine lv_iload hx hb dL_streets_276 (lv_at hl 4 rfl) ?_
  refine lv_imul hx hb dL_streets_278 ?_
  refine lv_iconst (v := (3 : Int32)) hx hb dL_streets_279 (by decide) ?_
  refine lv_iadd hx hb dL_streets_280 ?_
  refine lv_iload hx hb dL_streets_281 (lv_at hl 5 rfl) ?_
  refine lv_iadd hx hb dL_streets_283 ?_
  refine rIald F hW h.1 h.2.1 dL_streets_284 ?_
  replace h := h.2.2
  obtain ⟨c110, b111, h1, h2, h⟩ := h
  have hf1 := bdf hbc h1
  have hf2 := bdf hbs h2
  obtain ⟨hob, h⟩ := h
  refine cX (runX (n := 3) (As := [.int v4, .int v5, .int (mA u107 v3 ((((6 : Int32) * v4) + (3 : Int32)) + v5).toNatClampNeg)]) (rest := []) F hW (c_X5_vote F.2.2.2 G v0 v4 v5 (mA u107 v3 ((((6 : Int32) * v4) + (3 : Int32)) + v5).toNatClampNeg) c110 b111 u107 _ _ h) hob (ci := 6) rfl q_177 q_178 q_179 q_2 q_180 rfl (by decide +kernel) ⟨Nat.le_of_ble_eq_true rfl, Nat.le_of_ble_eq_true rfl⟩ dL_streets_285 rfl hl.1 (Nat.le_of_ble_eq_true rfl) ⟨hf1, hf2⟩) hW (fun r109 u108 h9 H locs hW => ?_) (fun E u108 h9 H locs hW => ?_)
  · replace h := h9
    clear h9
    replace hbc := bdg hbc h1
    replace hbs := bdg hbs h2
    clear h1 h2 hf1 hf2
    refine lv_iload hx hb dL_streets_288 (lv_at hl 4 rfl) ?_
    refine lv_aload_n hx hb dL_streets_290 rfl (lv_at hl 3 rfl) ?_
    refine cI (runS (n := 2) (As := [.int v4, .ref v3]) (rest := [.int r109]) F hW (c_L_days F.2.2.2 G v4 v3 u108 _ h) q_191 q_192 q_68 q_193 (by decide +kernel) ⟨Nat.le_of_ble_eq_true rfl, Nat.le_of_ble_eq_true rfl⟩ dL_streets_291 rfl hl.1 (Nat.le_of_ble_eq_true rfl) ⟨Nat.le.intro hbc, Nat.le.intro hbs⟩) hW (fun r113 u112 h9 H locs hW => ?_)
    replace h := h9
    clear h9
    refine lv_icmp_ne (tgt := 301) hx hb dL_streets_294 (by decide) (fun hc114 => ?_) (fun hc114 => ?_)
    · have h := h.2 hc114
      refine lv_iconst (v := (0 : Int32)) hx hb dL_streets_301 (by decide) ?_
      refine W.widen (k := MC) (n := MS) (Nat.le.intro hbc) (Nat.le.intro hbs) ?_
      exact retZ F hr hW h.1 h.2 dL_streets_302
    · have h := h.1 hc114
      refine lv_iconst (v := (1 : Int32)) hx hb dL_streets_297 (by decide) ?_
      refine lv_goto (tgt := 302) hx hb dL_streets_298 (by decide) ?_
      refine W.widen (k := MC) (n := MS) (Nat.le.intro hbc) (Nat.le.intro hbs) ?_
      exact retZ F hr hW h.1 h.2 dL_streets_302
  · exact h9.elim
set_option maxHeartbeats 4000000 in
set_option maxRecDepth 100000 in
theorem c_L_streets {l : Launch} (hst : l.stackTraces = false) (G : Ctx) (v0 : Nat) (v1 : Int32) (v2 : Int32) (v3 : Nat) (MC MS : Nat) (u : Mem) (K : Int32 → Mem → Prop) (h : w_L_streets G v0 v1 v2 v3 MC MS u K) : CtI l yL_streets (.code yL_streets cL_streets 7 (some .boolean)) 7 125 MC MS G [.ref v0, .int v1, .int v2, .ref v3] u K := by
  refine entM (by first | decide | decide +kernel) hst (by first | decide | exact Nat.le_of_ble_eq_true rfl) (fun p e s m below meth c ls F hr hnm hW hl => ?_)
  have F : Fx p l s m ([.ref v0, .int v1, .int v2, .ref v3]).toArray meth c cL_streets 7 RL G := F
  have hnm : meth.name = "streets" := hnm
  have hl : lv_has ls 7 [(0, .ref v0), (1, .int v1), (2, .int v2), (3, .ref v3)] := hl
  have hx := F.1.1
  have hb := F.1.2.1
  have hbc : 0 + MC = MC := Nat.zero_add _
  have hbs : 0 + MS = MS := Nat.zero_add _
  unfold w_L_streets at h
  refine lv_iload_n hx hb dL_streets_0 rfl (lv_at hl 2 rfl) ?_
  refine lv_bipush (v := (8 : Int32)) hx hb dL_streets_1 (by decide) ?_
  refine cI (runS (n := 2) (As := [.int v2, .int (8 : Int32)]) (rest := []) F hW (c_L_low F.2.2.2 G v2 (8 : Int32) u _ h) q_72 q_73 q_68 q_74 (by decide +kernel) ⟨Nat.le_of_ble_eq_true rfl, Nat.le_of_ble_eq_true rfl⟩ dL_streets_3 rfl hl.1 (Nat.le_of_ble_eq_true rfl) ⟨Nat.le.intro hbc, Nat.le.intro hbs⟩) hW (fun r2 u1 h9 H locs hW => ?_)
  replace h := h9
  clear h9
  refine lv_istore (lv' := [(4, .int r2), (0, .ref v0), (1, .int v1), (2, .int v2), (3, .ref v3)]) hx hb dL_streets_6 hl (by decide) rfl (fun ls hl9 => ?_)
  replace hl := hl9
  clear hl9
  refine lv_iload_n hx hb dL_streets_8 rfl (lv_at hl 2 rfl) ?_
  refine lv_if_ne (tgt := 113) hx hb dL_streets_9 (by decide) (fun hc3 => ?_) (fun hc3 => ?_)
  · have h := h.2 hc3
    refine lv_iload_n hx hb dL_streets_113 rfl (lv_at hl 2 rfl) ?_
    refine lv_iconst (v := (1 : Int32)) hx hb dL_streets_114 (by decide) ?_
    refine lv_icmp_ne (tgt := 222) hx hb dL_streets_115 (by decide) (fun hc4 => ?_) (fun hc4 => ?_)
    · have h := h.2 hc4
      refine lv_iload_n hx hb dL_streets_222 rfl (lv_at hl 3 rfl) ?_
      refine lv_iconst (v := (3 : Int32)) hx hb dL_streets_223 (by decide) ?_
      refine lv_ishr hx hb dL_streets_224 ?_
      refine lv_iconst (v := (3 : Int32)) hx hb dL_streets_225 (by decide) ?_
      refine cI (runS (n := 2) (As := [.int (v2 >>> ((3 : Int32) &&& 31)), .int (3 : Int32)]) (rest := []) F hW (c_L_low F.2.2.2 G (v2 >>> ((3 : Int32) &&& 31)) (3 : Int32) u1 _ h) q_72 q_73 q_68 q_74 (by decide +kernel) ⟨Nat.le_of_ble_eq_true rfl, Nat.le_of_ble_eq_true rfl⟩ dL_streets_226 rfl hl.1 (Nat.le_of_ble_eq_true rfl) ⟨Nat.le.intro hbc, Nat.le.intro hbs⟩) hW (fun r6 u5 h9 H locs hW => ?_)
      replace h := h9
      clear h9
      refine lv_istore (lv' := [(5, .int r6), (4, .int r2), (0, .ref v0), (1, .int v1), (2, .int v2), (3, .ref v3)]) hx hb dL_streets_229 hl (by decide) rfl (fun ls hl9 => ?_)
      replace hl := hl9
      clear hl9
      refine lv_aload_n hx hb dL_streets_231 rfl (lv_at hl 5 rfl) ?_
      refine lv_bipush (v := (6 : Int32)) hx hb dL_streets_232 (by decide) ?_
      refine lv_iload hx hb dL_streets_234 (lv_at hl 1 rfl) ?_
      refine lv_imul hx hb dL_streets_236 ?_
      refine lv_iconst (v := (3 : Int32)) hx hb dL_streets_237 (by decide) ?_
      refine lv_iadd hx hb dL_streets_238 ?_
      refine lv_iload hx hb dL_streets_239 (lv_at hl 0 rfl) ?_
      refine lv_iadd hx hb dL_streets_241 ?_
      refine lv_iconst (v := (1 : Int32)) hx hb dL_streets_242 (by decide) ?_
      refine lv_iload_n hx hb dL_streets_243 rfl (lv_at hl 4 rfl) ?_
      refine lv_iconst (v := (5 : Int32)) hx hb dL_streets_244 (by decide) ?_
      refine lv_ishr hx hb dL_streets_245 ?_
      refine lv_iload_n hx hb dL_streets_246 rfl (lv_at hl 4 rfl) ?_
      refine lv_bipush (v := (13 : Int32)) hx hb dL_streets_247 (by decide) ?_
      refine lv_ishr hx hb dL_streets_249 ?_
      refine lv_iconst (v := (2 : Int32)) hx hb dL_streets_250 (by decide) ?_
      refine cI (runS (n := 2) (As := [.int (v2 >>> ((13 : Int32) &&& 31)), .int (2 : Int32)]) (rest := [.int (v2 >>> ((5 : Int32) &&& 31)), .int (1 : Int32), .int ((((6 : Int32) * r2) + (3 : Int32)) + r6), .ref v3]) F hW (c_L_low F.2.2.2 G (v2 >>> ((13 : Int32) &&& 31)) (2 : Int32) u5 _ h) q_72 q_73 q_68 q_74 (by decide +kernel) ⟨Nat.le_of_ble_eq_true rfl, Nat.le_of_ble_eq_true rfl⟩ dL_streets_251 rfl hl.1 (Nat.le_of_ble_eq_true rfl) ⟨Nat.le.intro hbc, Nat.le.intro hbs⟩) hW (fun r8 u7 h9 H locs hW => ?_)
      replace h := h9
      clear h9
      refine lv_if_ne (tgt := 262) hx hb dL_streets_254 (by decide) (fun hc9 => ?_) (fun hc9 => ?_)
      · have h := h.2 hc9
        refine lv_iconst (v := (4 : Int32)) hx hb dL_streets_262 (by decide) ?_
        exact t_L_streets_263 v0 v1 v2 v3 MC MS F hr K r2 r6 (4 : Int32) (v2 >>> ((5 : Int32) &&& 31)) (1 : Int32) ((((6 : Int32) * r2) + (3 : Int32)) + r6) v3 MC MS u7 _ _ _ _ _ h hW (lv_sub hl [2, 3, 4, 5, 1, 0] rfl) hbc hbs
      · have h := h.1 hc9
        refine lv_bipush (v := (30 : Int32)) hx hb dL_streets_257 (by decide) ?_
        refine lv_goto (tgt := 263) hx hb dL_streets_259 (by decide) ?_
        exact t_L_streets_263 v0 v1 v2 v3 MC MS F hr K r2 r6 (30 : Int32) (v2 >>> ((5 : Int32) &&& 31)) (1 : Int32) ((((6 : Int32) * r2) + (3 : Int32)) + r6) v3 MC MS u7 _ _ _ _ _ h hW (lv_sub hl [2, 3, 4, 5, 1, 0] rfl) hbc hbs
    · have h := h.1 hc4
      refine lv_aload_n hx hb dL_streets_118 rfl (lv_at hl 4 rfl) ?_
      refine lv_bipush (v := (6 : Int32)) hx hb dL_streets_119 (by decide) ?_
      refine lv_iload hx hb dL_streets_121 (lv_at hl 0 rfl) ?_
      refine lv_imul hx hb dL_streets_123 ?_
      refine lv_iconst (v := (1 : Int32)) hx hb dL_streets_124 (by decide) ?_
      refine lv_iadd hx hb dL_streets_125 ?_
      refine rIald F hW h.1 h.2.1 dL_streets_126 ?_
      replace h := h.2.2
      refine lv_istore (lv' := [(5, .int (mA u1 v3 (((6 : Int32) * r2) + (1 : Int32)).toNatClampNeg)), (4, .int r2), (0, .ref v0), (1, .int v1), (2, .int v2), (3, .ref v3)]) hx hb dL_streets_127 hl (by decide) rfl (fun ls hl9 => ?_)
      replace hl := hl9
      clear hl9
      refine lv_aload_n hx hb dL_streets_129 rfl (lv_at hl 5 rfl) ?_
      refine lv_bipush (v := (6 : Int32)) hx hb dL_streets_130 (by decide) ?_
      refine lv_iload hx hb dL_streets_132 (lv_at hl 1 rfl) ?_
      refine lv_imul hx hb dL_streets_134 ?_
      refine lv_iconst (v := (1 : Int32)) hx hb dL_streets_135 (by decide) ?_
      refine lv_iadd hx hb dL_streets_136 ?_
      refine lv_iload_n hx hb dL_streets_137 rfl (lv_at hl 4 rfl) ?_
      refine lv_iconst (v := (3 : Int32)) hx hb dL_streets_138 (by decide) ?_
      refine lv_ishr hx hb dL_streets_139 ?_
      refine lv_iload_n hx hb dL_streets_140 rfl (lv_at hl 4 rfl) ?_
      refine lv_bipush (v := (13 : Int32)) hx hb dL_streets_141 (by decide) ?_
      refine lv_ishr hx hb dL_streets_143 ?_
      refine lv_iconst (v := (3 : Int32)) hx hb dL_streets_144 (by decide) ?_
      refine cI (runS (n := 2) (As := [.int (v2 >>> ((13 : Int32) &&& 31)), .int (3 : Int32)]) (rest := [.int (v2 >>> ((3 : Int32) &&& 31)), .int (((6 : Int32) * r2) + (1 : Int32)), .ref v3]) F hW (c_L_low F.2.2.2 G (v2 >>> ((13 : Int32) &&& 31)) (3 : Int32) u1 _ h) q_72 q_73 q_68 q_74 (by decide +kernel) ⟨Nat.le_of_ble_eq_true rfl, Nat.le_of_ble_eq_true rfl⟩ dL_streets_145 rfl hl.1 (Nat.le_of_ble_eq_true rfl) ⟨Nat.le.intro hbc, Nat.le.intro hbs⟩) hW (fun r11 u10 h9 H locs hW => ?_)
      replace h := h9
      clear h9
      refine lv_if_ne (tgt := 156) hx hb dL_streets_148 (by decide) (fun hc12 => ?_) (fun hc12 => ?_)
      · have h := h.2 hc12
        refine lv_iconst (v := (5 : Int32)) hx hb dL_streets_156 (by decide) ?_
        exact t_L_streets_157 v0 v1 v2 v3 MC MS F hr K r2 (mA u1 v3 (((6 : Int32) * r2) + (1 : Int32)).toNatClampNeg) (5 : Int32) (v2 >>> ((3 : Int32) &&& 31)) (((6 : Int32) * r2) + (1 : Int32)) v3 MC MS u10 _ _ _ _ _ h hW (lv_sub hl [2, 3, 4, 5, 1, 0] rfl) hbc hbs
      · have h := h.1 hc12
        refine lv_bipush (v := (51 : Int32)) hx hb dL_streets_151 (by decide) ?_
        refine lv_goto (tgt := 157) hx hb dL_streets_153 (by decide) ?_
        exact t_L_streets_157 v0 v1 v2 v3 MC MS F hr K r2 (mA u1 v3 (((6 : Int32) * r2) + (1 : Int32)).toNatClampNeg) (51 : Int32) (v2 >>> ((3 : Int32) &&& 31)) (((6 : Int32) * r2) + (1 : Int32)) v3 MC MS u10 _ _ _ _ _ h hW (lv_sub hl [2, 3, 4, 5, 1, 0] rfl) hbc hbs
  · have h := h.1 hc3
    refine lv_iconst (v := (1 : Int32)) hx hb dL_streets_12 (by decide) ?_
    refine lv_iload_n hx hb dL_streets_13 rfl (lv_at hl 3 rfl) ?_
    refine lv_iconst (v := (3 : Int32)) hx hb dL_streets_14 (by decide) ?_
    refine lv_ishr hx hb dL_streets_15 ?_
    refine lv_iload_n hx hb dL_streets_16 rfl (lv_at hl 3 rfl) ?_
    refine lv_bipush (v := (13 : Int32)) hx hb dL_streets_17 (by decide) ?_
    refine lv_ishr hx hb dL_streets_19 ?_
    refine lv_iconst (v := (3 : Int32)) hx hb dL_streets_20 (by decide) ?_
    refine cI (runS (n := 2) (As := [.int (v2 >>> ((13 : Int32) &&& 31)), .int (3 : Int32)]) (rest := [.int (v2 >>> ((3 : Int32) &&& 31)), .int (1 : Int32)]) F hW (c_L_low F.2.2.2 G (v2 >>> ((13 : Int32) &&& 31)) (3 : Int32) u1 _ h) q_72 q_73 q_68 q_74 (by decide +kernel) ⟨Nat.le_of_ble_eq_true rfl, Nat.le_of_ble_eq_true rfl⟩ dL_streets_21 rfl hl.1 (Nat.le_of_ble_eq_true rfl) ⟨Nat.le.intro hbc, Nat.le.intro hbs⟩) hW (fun r14 u13 h9 H locs hW => ?_)
    replace h := h9
    clear h9
    refine lv_if_ne (tgt := 33) hx hb dL_streets_24 (by decide) (fun hc15 => ?_) (fun hc15 => ?_)
    · have h := h.2 hc15
      refine lv_bipush (v := (9 : Int32)) hx hb dL_streets_33 (by decide) ?_
      exact t_L_streets_35 v0 v1 v2 v3 MC MS F hr K r2 (9 : Int32) (v2 >>> ((3 : Int32) &&& 31)) (1 : Int32) MC MS u13 _ _ _ _ _ h hW (lv_sub hl [1, 2, 3, 4, 0] rfl) hbc hbs
    · have h := h.1 hc15
      refine lv_sipush (v := (10000 : Int32)) hx hb dL_streets_27 (by decide) ?_
      refine lv_goto (tgt := 35) hx hb dL_streets_30 (by decide) ?_
      exact t_L_streets_35 v0 v1 v2 v3 MC MS F hr K r2 (10000 : Int32) (v2 >>> ((3 : Int32) &&& 31)) (1 : Int32) MC MS u13 _ _ _ _ _ h hW (lv_sub hl [1, 2, 3, 4, 0] rfl) hbc hbs
end WK4
