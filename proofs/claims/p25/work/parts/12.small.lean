section WK1
set_option maxHeartbeats 4000000 in
set_option maxRecDepth 100000 in
theorem t_X0_eraseDue_46 {p : Program} {l : Launch} {e : Env} {s : State} {m : MethodId} {below : List Frame} {meth : Method} {c : Code} {G : Ctx} (v0 : Nat) (v1 : Int32) (F : Fx p l s m ([.ref v0, .int v1]).toArray meth c cX0_eraseDue 4 RX0 G) (hr : meth.sig.returnType = (some .int)) (K : Int32 → Mem → Prop) (J12 : Int32 → Int32 → Mem → Prop) (hJ12 : ∀ (v2 : Int32) (v3 : Int32) (u : Mem) (H : Heap) (locs : List Loc) (ls : Array Slot), J12 v2 v3 u → Wd G u s H locs → lv_has ls 4 [(0, .ref v0), (1, .int v1), (2, .int v2), (3, .int v3)] → W p l e { frames := 3, cells := 0, slots := 0, locals := 106 } s m ([.ref v0, .int v1]).toArray below meth c H locs 0 0 (MQ below (va_Qi K (fun u' t => Wp G u' t.heap) (Ab G)) ([.ref v0, .int v1]).toArray s 0 0 (Ab G)) (F0 m 12 ls [])) : ∀ (v2 : Int32) (v3 : Int32) (u : Mem) (H : Heap) (locs : List Loc) (ls : Array Slot), w_X0_eraseDue_46 G v0 v1 K J12 v2 v3 u → Wd G u s H locs → lv_has ls 4 [(0, .ref v0), (1, .int v1), (2, .int v2), (3, .int v3)] → W p l e { frames := 3, cells := 0, slots := 0, locals := 106 } s m ([.ref v0, .int v1]).toArray below meth c H locs 0 0 (MQ below (va_Qi K (fun u' t => Wp G u' t.heap) (Ab G)) ([.ref v0, .int v1]).toArray s 0 0 (Ab G)) (F0 m 46 ls []) := by
  have hx := F.1.1
  have hb := F.1.2.1
  intro v2 v3 u H locs ls h hW hl
  unfold w_X0_eraseDue_46 at h
  refine lv_iinc (v := (v3 + (-1))) (lv' := [(3, .int (v3 + (-1))), (0, .ref v0), (1, .int v1), (2, .int v2)]) hx hb dX0_eraseDue_46 hl (k := 3) rfl rfl (by decide) rfl (fun ls hl9 => ?_)
  replace hl := hl9
  clear hl9
  refine lv_goto (tgt := 12) hx hb dX0_eraseDue_49 (by decide) ?_
  exact hJ12 v2 (v3 + (-1)) u _ _ _ h hW (lv_sub hl [1, 2, 3, 0] rfl)
set_option maxHeartbeats 4000000 in
set_option maxRecDepth 100000 in
theorem t_X0_eraseDue_12 {p : Program} {l : Launch} {e : Env} {s : State} {m : MethodId} {below : List Frame} {meth : Method} {c : Code} {G : Ctx} (v0 : Nat) (v1 : Int32) (F : Fx p l s m ([.ref v0, .int v1]).toArray meth c cX0_eraseDue 4 RX0 G) (hr : meth.sig.returnType = (some .int)) (K : Int32 → Mem → Prop) : ∀ (n : Nat), ∀ (v2 : Int32) (v3 : Int32) (u : Mem) (H : Heap) (locs : List Loc) (ls : Array Slot), w_X0_eraseDue_12 G v0 v1 K n v2 v3 u → Wd G u s H locs → lv_has ls 4 [(0, .ref v0), (1, .int v1), (2, .int v2), (3, .int v3)] → W p l e { frames := 3, cells := 0, slots := 0, locals := 106 } s m ([.ref v0, .int v1]).toArray below meth c H locs 0 0 (MQ below (va_Qi K (fun u' t => Wp G u' t.heap) (Ab G)) ([.ref v0, .int v1]).toArray s 0 0 (Ab G)) (F0 m 12 ls []) := by
  have hx := F.1.1
  have hb := F.1.2.1
  intro n
  induction n with
  | zero =>
    intro v2 v3 u H locs ls h hW hl
    exact h.elim
  | succ n hJ12 =>
    intro v2 v3 u H locs ls h hW hl
    have h : b_X0_eraseDue_12 G v0 v1 K (w_X0_eraseDue_12 G v0 v1 K n) v2 v3 u := h
    revert h
    generalize w_X0_eraseDue_12 G v0 v1 K n = J12 at hJ12 ⊢
    intro h
    unfold b_X0_eraseDue_12 at h
    refine lv_iload_n hx hb dX0_eraseDue_12 rfl (lv_at hl 3 rfl) ?_
    refine lv_if_lt (tgt := 52) hx hb dX0_eraseDue_13 (by decide) (fun hc27 => ?_) (fun hc27 => ?_)
    · have h := h.1 hc27
      refine lv_iload_n hx hb dX0_eraseDue_52 rfl (lv_at hl 2 rfl) ?_
      exact retI F hr hW h dX0_eraseDue_53
    · have h := h.2 hc27
      refine lv_aload_n hx hb dX0_eraseDue_16 rfl (lv_at hl 0 rfl) ?_
      refine gf_1_1 F hW h.1 q_48 dX0_eraseDue_17 ?_
      replace h := h.2
      obtain ⟨r28, er⟩ : ∃ z, z = mR u 33 v0 := ⟨_, rfl⟩
      rw [← er]
      replace h := h r28 er
      clear er
      refine lv_iload_n hx hb dX0_eraseDue_20 rfl (lv_at hl 3 rfl) ?_
      obtain ⟨a29, ea, h⟩ := h
      subst ea
      obtain ⟨hob, h⟩ := h
      refine cQ (runV (n := 1) (As := [.int v3]) (rest := []) F hW (c_Jx4a65c_get_915e3 F.2.2.2 G a29 v3 u _ h) hob (ci := 0) rfl q_237 q_216 q_217 q_16 q_218 rfl (by decide +kernel) ⟨Nat.le_of_ble_eq_true rfl, Nat.le_of_ble_eq_true rfl⟩ dX0_eraseDue_21 rfl hl.1 (Nat.le_of_ble_eq_true rfl) ⟨Nat.zero_le _, Nat.zero_le _⟩) hW (fun r31 u30 h9 H locs hW => ?_)
      replace h := h9
      clear h9
      obtain ⟨a32, ea, h⟩ := h
      subst ea
      refine rCast F hW h.1 (ci := 3) rfl q_303 dX0_eraseDue_24 ?_
      replace h := h.2
      refine gn_3_3 F hW h.1 (List.mem_of_getElem? (i := 14) rfl) dX0_eraseDue_27 ?_
      replace h := h.2
      refine lv_iload_n hx hb dX0_eraseDue_30 rfl (lv_at hl 1 rfl) ?_
      refine lv_icmp_gt (tgt := 46) hx hb dX0_eraseDue_31 (by decide) (fun hc33 => ?_) (fun hc33 => ?_)
      · have h := h.1 hc33
        exact t_X0_eraseDue_46 v0 v1 F hr K J12 hJ12 v2 v3 u30 _ _ _ h hW (lv_sub hl [0, 1, 2, 3] rfl)
      · have h := h.2 hc33
        refine lv_aload_n hx hb dX0_eraseDue_34 rfl (lv_at hl 0 rfl) ?_
        refine gf_1_1 F hW h.1 q_48 dX0_eraseDue_35 ?_
        replace h := h.2
        obtain ⟨r34, er⟩ : ∃ z, z = mR u30 33 v0 := ⟨_, rfl⟩
        rw [← er]
        replace h := h r34 er
        clear er
        refine lv_iload_n hx hb dX0_eraseDue_38 rfl (lv_at hl 3 rfl) ?_
        obtain ⟨a35, ea, h⟩ := h
        subst ea
        obtain ⟨hob, h⟩ := h
        refine cQ (runV (n := 1) (As := [.int v3]) (rest := []) F hW (c_Jx4a65c_remove_915e3 F.2.2.2 G a35 v3 u30 _ h) hob (ci := 0) rfl q_238 q_239 q_240 q_16 q_241 rfl (by decide +kernel) ⟨Nat.le_of_ble_eq_true rfl, Nat.le_of_ble_eq_true rfl⟩ dX0_eraseDue_39 rfl hl.1 (Nat.le_of_ble_eq_true rfl) ⟨Nat.zero_le _, Nat.zero_le _⟩) hW (fun r37 u36 h9 H locs hW => ?_)
        replace h := h9
        clear h9
        refine lv_pop hx hb dX0_eraseDue_42 (va_rf_cat _) ?_
        refine lv_iinc (v := (v2 + 1)) (lv' := [(2, .int (v2 + 1)), (0, .ref v0), (1, .int v1), (3, .int v3)]) hx hb dX0_eraseDue_43 hl (k := 2) rfl rfl (by decide) rfl (fun ls hl9 => ?_)
        replace hl := hl9
        clear hl9
        exact t_X0_eraseDue_46 v0 v1 F hr K J12 hJ12 (v2 + 1) v3 u36 _ _ _ h hW (lv_sub hl [1, 2, 0, 3] rfl)
set_option maxHeartbeats 4000000 in
set_option maxRecDepth 100000 in
theorem c_X0_eraseDue {l : Launch} (hst : l.stackTraces = false) (G : Ctx) (v0 : Nat) (v1 : Int32) (u : Mem) (K : Int32 → Mem → Prop) (h : w_X0_eraseDue G v0 v1 u K) : CtI l yX0_eraseDue (.code yX0_eraseDue cX0_eraseDue 4 (some .int)) 3 106 0 0 G [.ref v0, .int v1] u K := by
  refine entM (by first | decide | decide +kernel) hst (by first | decide | exact Nat.le_of_ble_eq_true rfl) (fun p e s m below meth c ls F hr hnm hW hl => ?_)
  have F : Fx p l s m ([.ref v0, .int v1]).toArray meth c cX0_eraseDue 4 RX0 G := F
  have hnm : meth.name = "eraseDue" := hnm
  have hl : lv_has ls 4 [(0, .ref v0), (1, .int v1)] := hl
  have hx := F.1.1
  have hb := F.1.2.1
  unfold w_X0_eraseDue at h
  refine lv_iconst (v := (0 : Int32)) hx hb dX0_eraseDue_0 (by decide) ?_
  refine lv_istore_n (lv' := [(2, .int (0 : Int32)), (0, .ref v0), (1, .int v1)]) hx hb dX0_eraseDue_1 rfl hl (by decide) rfl (fun ls hl9 => ?_)
  replace hl := hl9
  clear hl9
  refine lv_aload_n hx hb dX0_eraseDue_2 rfl (lv_at hl 1 rfl) ?_
  refine gf_1_1 F hW h.1 q_48 dX0_eraseDue_3 ?_
  replace h := h.2
  obtain ⟨r1, er⟩ : ∃ z, z = mR u 33 v0 := ⟨_, rfl⟩
  rw [← er]
  replace h := h r1 er
  clear er
  obtain ⟨a2, ea, h⟩ := h
  subst ea
  obtain ⟨hob, h⟩ := h
  refine cI (runV (n := 0) (As := []) (rest := []) F hW (c_Jx4a65c_size_8abf5 F.2.2.2 G a2 u _ h) hob (ci := 0) rfl q_236 q_93 q_94 q_16 q_95 rfl (by decide +kernel) ⟨Nat.le_of_ble_eq_true rfl, Nat.le_of_ble_eq_true rfl⟩ dX0_eraseDue_6 rfl hl.1 (Nat.le_of_ble_eq_true rfl) ⟨Nat.zero_le _, Nat.zero_le _⟩) hW (fun r4 u3 h9 H locs hW => ?_)
  replace h := h9
  clear h9
  refine lv_iconst (v := (1 : Int32)) hx hb dX0_eraseDue_9 (by decide) ?_
  refine lv_isub hx hb dX0_eraseDue_10 ?_
  refine lv_istore_n (lv' := [(3, .int (r4 - (1 : Int32))), (2, .int (0 : Int32)), (0, .ref v0), (1, .int v1)]) hx hb dX0_eraseDue_11 rfl hl (by decide) rfl (fun ls hl9 => ?_)
  replace hl := hl9
  clear hl9
  obtain ⟨n, h⟩ := h
  exact t_X0_eraseDue_12 v0 v1 F hr K n (0 : Int32) (r4 - (1 : Int32)) u3 _ _ _ h hW (lv_sub hl [2, 3, 1, 0] rfl)
set_option maxHeartbeats 4000000 in
set_option maxRecDepth 100000 in
theorem c_X0_countTaken {l : Launch} (hst : l.stackTraces = false) (G : Ctx) (v0 : Nat) (u : Mem) (K : Int32 → Mem → Prop) (h : w_X0_countTaken G v0 u K) : CtI l yX0_countTaken (.code yX0_countTaken cX0_countTaken 1 (some .int)) 1 20 0 0 G [.ref v0] u K := by
  refine entM (by first | decide | decide +kernel) hst (by first | decide | exact Nat.le_of_ble_eq_true rfl) (fun p e s m below meth c ls F hr hnm hW hl => ?_)
  have F : Fx p l s m ([.ref v0]).toArray meth c cX0_countTaken 1 RX0 G := F
  have hnm : meth.name = "countTaken" := hnm
  have hl : lv_has ls 1 [(0, .ref v0)] := hl
  have hx := F.1.1
  have hb := F.1.2.1
  unfold w_X0_countTaken at h
  refine lv_aload_n hx hb dX0_countTaken_0 rfl (lv_at hl 0 rfl) ?_
  refine gf_1_0 F hW h.1 q_47 dX0_countTaken_1 ?_
  replace h := h.2
  obtain ⟨r1, er⟩ : ∃ z, z = mR u 32 v0 := ⟨_, rfl⟩
  rw [← er]
  replace h := h r1 er
  clear er
  obtain ⟨a2, ea, h⟩ := h
  subst ea
  obtain ⟨hob, h⟩ := h
  refine cI (runV (n := 0) (As := []) (rest := []) F hW (c_Jx4a65c_size_8abf5 F.2.2.2 G a2 u _ h) hob (ci := 0) rfl q_236 q_93 q_94 q_16 q_95 rfl (by decide +kernel) ⟨Nat.le_of_ble_eq_true rfl, Nat.le_of_ble_eq_true rfl⟩ dX0_countTaken_4 rfl hl.1 (Nat.le_of_ble_eq_true rfl) ⟨Nat.zero_le _, Nat.zero_le _⟩) hW (fun r4 u3 h9 H locs hW => ?_)
  replace h := h9
  clear h9
  exact retI F hr hW h dX0_countTaken_7
set_option maxHeartbeats 4000000 in
set_option maxRecDepth 100000 in
theorem c_X0_countKept {l : Launch} (hst : l.stackTraces = false) (G : Ctx) (v0 : Nat) (u : Mem) (K : Int32 → Mem → Prop) (h : w_X0_countKept G v0 u K) : CtI l yX0_countKept (.code yX0_countKept cX0_countKept 1 (some .int)) 1 20 0 0 G [.ref v0] u K := by
  refine entM (by first | decide | decide +kernel) hst (by first | decide | exact Nat.le_of_ble_eq_true rfl) (fun p e s m below meth c ls F hr hnm hW hl => ?_)
  have F : Fx p l s m ([.ref v0]).toArray meth c cX0_countKept 1 RX0 G := F
  have hnm : meth.name = "countKept" := hnm
  have hl : lv_has ls 1 [(0, .ref v0)] := hl
  have hx := F.1.1
  have hb := F.1.2.1
  unfold w_X0_countKept at h
  refine lv_aload_n hx hb dX0_countKept_0 rfl (lv_at hl 0 rfl) ?_
  refine gf_1_1 F hW h.1 q_48 dX0_countKept_1 ?_
  replace h := h.2
  obtain ⟨r1, er⟩ : ∃ z, z = mR u 33 v0 := ⟨_, rfl⟩
  rw [← er]
  replace h := h r1 er
  clear er
  obtain ⟨a2, ea, h⟩ := h
  subst ea
  obtain ⟨hob, h⟩ := h
  refine cI (runV (n := 0) (As := []) (rest := []) F hW (c_Jx4a65c_size_8abf5 F.2.2.2 G a2 u _ h) hob (ci := 0) rfl q_236 q_93 q_94 q_16 q_95 rfl (by decide +kernel) ⟨Nat.le_of_ble_eq_true rfl, Nat.le_of_ble_eq_true rfl⟩ dX0_countKept_4 rfl hl.1 (Nat.le_of_ble_eq_true rfl) ⟨Nat.zero_le _, Nat.zero_le _⟩) hW (fun r4 u3 h9 H locs hW => ?_)
  replace h := h9
  clear h9
  exact retI F hr hW h dX0_countKept_7
set_option maxHeartbeats 4000000 in
set_option maxRecDepth 100000 in
theorem c_X2_isOf {l : Launch} (hst : l.stackTraces = false) (G : Ctx) (v0 : Nat) (v1 : Int32) (v2 : Int32) (v3 : Int32) (u : Mem) (K : Int32 → Mem → Prop) (h : w_X2_isOf G v0 v1 v2 v3 u K) : CtI l yX2_isOf (.code yX2_isOf cX2_isOf 4 (some .boolean)) 0 0 0 0 G [.ref v0, .int v1, .int v2, .int v3] u K := by
  refine entM (by first | decide | decide +kernel) hst (by first | decide | exact Nat.le_of_ble_eq_true rfl) (fun p e s m below meth c ls F hr hnm hW hl => ?_)
  have F : Fx p l s m ([.ref v0, .int v1, .int v2, .int v3]).toArray meth c cX2_isOf 4 RX2 G := F
  have hnm : meth.name = "isOf" := hnm
  have hl : lv_has ls 4 [(0, .ref v0), (1, .int v1), (2, .int v2), (3, .int v3)] := hl
  have hx := F.1.1
  have hb := F.1.2.1
  unfold w_X2_isOf at h
  refine lv_aload_n hx hb dX2_isOf_0 rfl (lv_at hl 0 rfl) ?_
  refine gf_3_0 F hW h.1 q_314 dX2_isOf_1 ?_
  replace h := h.2
  refine lv_iload_n hx hb dX2_isOf_4 rfl (lv_at hl 1 rfl) ?_
  refine lv_icmp_ne (tgt := 28) hx hb dX2_isOf_5 (by decide) (fun hc1 => ?_) (fun hc1 => ?_)
  · have h := h.2 hc1
    refine lv_iconst (v := (0 : Int32)) hx hb dX2_isOf_28 (by decide) ?_
    exact retZ F hr hW h.1 h.2 dX2_isOf_29
  · have h := h.1 hc1
    refine lv_aload_n hx hb dX2_isOf_8 rfl (lv_at hl 0 rfl) ?_
    refine gf_3_1 F hW h.1 q_315 dX2_isOf_9 ?_
    replace h := h.2
    refine lv_iload_n hx hb dX2_isOf_12 rfl (lv_at hl 2 rfl) ?_
    refine lv_icmp_ne (tgt := 28) hx hb dX2_isOf_13 (by decide) (fun hc2 => ?_) (fun hc2 => ?_)
    · have h := h.2 hc2
      refine lv_iconst (v := (0 : Int32)) hx hb dX2_isOf_28 (by decide) ?_
      exact retZ F hr hW h.1 h.2 dX2_isOf_29
    · have h := h.1 hc2
      refine lv_aload_n hx hb dX2_isOf_16 rfl (lv_at hl 0 rfl) ?_
      refine gf_3_2 F hW h.1 q_316 dX2_isOf_17 ?_
      replace h := h.2
      refine lv_iload_n hx hb dX2_isOf_20 rfl (lv_at hl 3 rfl) ?_
      refine lv_icmp_ne (tgt := 28) hx hb dX2_isOf_21 (by decide) (fun hc3 => ?_) (fun hc3 => ?_)
      · have h := h.2 hc3
        refine lv_iconst (v := (0 : Int32)) hx hb dX2_isOf_28 (by decide) ?_
        exact retZ F hr hW h.1 h.2 dX2_isOf_29
      · have h := h.1 hc3
        refine lv_iconst (v := (1 : Int32)) hx hb dX2_isOf_24 (by decide) ?_
        refine lv_goto (tgt := 29) hx hb dX2_isOf_25 (by decide) ?_
        exact retZ F hr hW h.1 h.2 dX2_isOf_29
set_option maxHeartbeats 4000000 in
set_option maxRecDepth 100000 in
theorem t_X0_keeps_3 {p : Program} {l : Launch} {e : Env} {s : State} {m : MethodId} {below : List Frame} {meth : Method} {c : Code} {G : Ctx} (v0 : Nat) (v1 : Int32) (v2 : Int32) (v3 : Int32) (F : Fx p l s m ([.ref v0, .int v1, .int v2, .int v3]).toArray meth c cX0_keeps 5 RX0 G) (hr : meth.sig.returnType = (some .boolean)) (K : Int32 → Mem → Prop) : ∀ (n : Nat), ∀ (v4 : Int32) (u : Mem) (H : Heap) (locs : List Loc) (ls : Array Slot), w_X0_keeps_3 G v0 v1 v2 v3 K n v4 u → Wd G u s H locs → lv_has ls 5 [(0, .ref v0), (1, .int v1), (2, .int v2), (3, .int v3), (4, .int v4)] → W p l e { frames := 3, cells := 0, slots := 0, locals := 64 } s m ([.ref v0, .int v1, .int v2, .int v3]).toArray below meth c H locs 0 0 (MQ below (va_Qi K (fun u' t => Wp G u' t.heap) (Ab G)) ([.ref v0, .int v1, .int v2, .int v3]).toArray s 0 0 (Ab G)) (F0 m 3 ls []) := by
  have hx := F.1.1
  have hb := F.1.2.1
  intro n
  induction n with
  | zero =>
    intro v4 u H locs ls h hW hl
    exact h.elim
  | succ n hJ3 =>
    intro v4 u H locs ls h hW hl
    have h : b_X0_keeps_3 G v0 v1 v2 v3 K (w_X0_keeps_3 G v0 v1 v2 v3 K n) v4 u := h
    revert h
    generalize w_X0_keeps_3 G v0 v1 v2 v3 K n = J3 at hJ3 ⊢
    intro h
    unfold b_X0_keeps_3 at h
    refine lv_iload hx hb dX0_keeps_3 (lv_at hl 4 rfl) ?_
    refine lv_aload_n hx hb dX0_keeps_5 rfl (lv_at hl 0 rfl) ?_
    refine gf_1_1 F hW h.1 q_48 dX0_keeps_6 ?_
    replace h := h.2
    obtain ⟨r27, er⟩ : ∃ z, z = mR u 33 v0 := ⟨_, rfl⟩
    rw [← er]
    replace h := h r27 er
    clear er
    obtain ⟨a28, ea, h⟩ := h
    subst ea
    obtain ⟨hob, h⟩ := h
    refine cI (runV (n := 0) (As := []) (rest := [.int v4]) F hW (c_Jx4a65c_size_8abf5 F.2.2.2 G a28 u _ h) hob (ci := 0) rfl q_236 q_93 q_94 q_16 q_95 rfl (by decide +kernel) ⟨Nat.le_of_ble_eq_true rfl, Nat.le_of_ble_eq_true rfl⟩ dX0_keeps_9 rfl hl.1 (Nat.le_of_ble_eq_true rfl) ⟨Nat.zero_le _, Nat.zero_le _⟩) hW (fun r30 u29 h9 H locs hW => ?_)
    replace h := h9
    clear h9
    refine lv_icmp_ge (tgt := 44) hx hb dX0_keeps_12 (by decide) (fun hc31 => ?_) (fun hc31 => ?_)
    · have h := h.1 hc31
      refine lv_iconst (v := (0 : Int32)) hx hb dX0_keeps_44 (by decide) ?_
      exact retZ F hr hW h.1 h.2 dX0_keeps_45
    · have h := h.2 hc31
      refine lv_aload_n hx hb dX0_keeps_15 rfl (lv_at hl 0 rfl) ?_
      refine gf_1_1 F hW h.1 q_48 dX0_keeps_16 ?_
      replace h := h.2
      obtain ⟨r32, er⟩ : ∃ z, z = mR u29 33 v0 := ⟨_, rfl⟩
      rw [← er]
      replace h := h r32 er
      clear er
      refine lv_iload hx hb dX0_keeps_19 (lv_at hl 4 rfl) ?_
      obtain ⟨a33, ea, h⟩ := h
      subst ea
      obtain ⟨hob, h⟩ := h
      refine cQ (runV (n := 1) (As := [.int v4]) (rest := []) F hW (c_Jx4a65c_get_915e3 F.2.2.2 G a33 v4 u29 _ h) hob (ci := 0) rfl q_237 q_216 q_217 q_16 q_218 rfl (by decide +kernel) ⟨Nat.le_of_ble_eq_true rfl, Nat.le_of_ble_eq_true rfl⟩ dX0_keeps_21 rfl hl.1 (Nat.le_of_ble_eq_true rfl) ⟨Nat.zero_le _, Nat.zero_le _⟩) hW (fun r35 u34 h9 H locs hW => ?_)
      replace h := h9
      clear h9
      obtain ⟨a36, ea, h⟩ := h
      subst ea
      refine rCast F hW h.1 (ci := 3) rfl q_303 dX0_keeps_24 ?_
      replace h := h.2
      refine lv_iload_n hx hb dX0_keeps_27 rfl (lv_at hl 1 rfl) ?_
      refine lv_iload_n hx hb dX0_keeps_28 rfl (lv_at hl 2 rfl) ?_
      refine lv_iload_n hx hb dX0_keeps_29 rfl (lv_at hl 3 rfl) ?_
      obtain ⟨hob, h⟩ := h
      refine cI (runV (n := 3) (As := [.int v1, .int v2, .int v3]) (rest := []) F hW (c_X2_isOf F.2.2.2 G a36 v1 v2 v3 u34 _ h) hob (ci := 3) rfl q_310 q_311 q_312 q_305 q_313 rfl (by decide +kernel) ⟨Nat.le_of_ble_eq_true rfl, Nat.le_of_ble_eq_true rfl⟩ dX0_keeps_30 rfl hl.1 (Nat.le_of_ble_eq_true rfl) ⟨Nat.zero_le _, Nat.zero_le _⟩) hW (fun r38 u37 h9 H locs hW => ?_)
      replace h := h9
      clear h9
      refine lv_if_eq (tgt := 38) hx hb dX0_keeps_33 (by decide) (fun hc39 => ?_) (fun hc39 => ?_)
      · have h := h.1 hc39
        refine lv_iinc (v := (v4 + 1)) (lv' := [(4, .int (v4 + 1)), (0, .ref v0), (1, .int v1), (2, .int v2), (3, .int v3)]) hx hb dX0_keeps_38 hl (k := 4) rfl rfl (by decide) rfl (fun ls hl9 => ?_)
        replace hl := hl9
        clear hl9
        refine lv_goto (tgt := 3) hx hb dX0_keeps_41 (by decide) ?_
        exact hJ3 (v4 + 1) u37 _ _ _ h hW (lv_sub hl [1, 2, 3, 4, 0] rfl)
      · have h := h.2 hc39
        refine lv_iconst (v := (1 : Int32)) hx hb dX0_keeps_36 (by decide) ?_
        exact retZ F hr hW h.1 h.2 dX0_keeps_37
set_option maxHeartbeats 4000000 in
set_option maxRecDepth 100000 in
theorem c_X0_keeps {l : Launch} (hst : l.stackTraces = false) (G : Ctx) (v0 : Nat) (v1 : Int32) (v2 : Int32) (v3 : Int32) (u : Mem) (K : Int32 → Mem → Prop) (h : w_X0_keeps G v0 v1 v2 v3 u K) : CtI l yX0_keeps (.code yX0_keeps cX0_keeps 5 (some .boolean)) 3 64 0 0 G [.ref v0, .int v1, .int v2, .int v3] u K := by
  refine entM (by first | decide | decide +kernel) hst (by first | decide | exact Nat.le_of_ble_eq_true rfl) (fun p e s m below meth c ls F hr hnm hW hl => ?_)
  have F : Fx p l s m ([.ref v0, .int v1, .int v2, .int v3]).toArray meth c cX0_keeps 5 RX0 G := F
  have hnm : meth.name = "keeps" := hnm
  have hl : lv_has ls 5 [(0, .ref v0), (1, .int v1), (2, .int v2), (3, .int v3)] := hl
  have hx := F.1.1
  have hb := F.1.2.1
  unfold w_X0_keeps at h
  refine lv_iconst (v := (0 : Int32)) hx hb dX0_keeps_0 (by decide) ?_
  refine lv_istore (lv' := [(4, .int (0 : Int32)), (0, .ref v0), (1, .int v1), (2, .int v2), (3, .int v3)]) hx hb dX0_keeps_1 hl (by decide) rfl (fun ls hl9 => ?_)
  replace hl := hl9
  clear hl9
  obtain ⟨n, h⟩ := h
  exact t_X0_keeps_3 v0 v1 v2 v3 F hr K n (0 : Int32) u _ _ _ h hW (lv_sub hl [1, 2, 3, 4, 0] rfl)
set_option maxHeartbeats 4000000 in
set_option maxRecDepth 100000 in
theorem t_X0_papersTell_52 {p : Program} {l : Launch} {e : Env} {s : State} {m : MethodId} {below : List Frame} {meth : Method} {c : Code} {G : Ctx} (v0 : Nat) (v1 : Int32) (v2 : Int32) (v3 : Int32) (v4 : Int32) (F : Fx p l s m ([.ref v0, .int v1, .int v2, .int v3, .int v4]).toArray meth c cX0_papersTell 7 RX0 G) (hr : meth.sig.returnType = (some .boolean)) (K : Int32 → Mem → Prop) (J3 : Int32 → Mem → Prop) (hJ3 : ∀ (v5 : Int32) (u : Mem) (H : Heap) (locs : List Loc) (ls : Array Slot), J3 v5 u → Wd G u s H locs → lv_has ls 7 [(0, .ref v0), (1, .int v1), (2, .int v2), (3, .int v3), (4, .int v4), (5, .int v5)] → W p l e { frames := 3, cells := 0, slots := 0, locals := 64 } s m ([.ref v0, .int v1, .int v2, .int v3, .int v4]).toArray below meth c H locs 0 0 (MQ below (va_Qi K (fun u' t => Wp G u' t.heap) (Ab G)) ([.ref v0, .int v1, .int v2, .int v3, .int v4]).toArray s 0 0 (Ab G)) (F0 m 3 ls [])) : ∀ (v5 : Int32) (u : Mem) (H : Heap) (locs : List Loc) (ls : Array Slot), w_X0_papersTell_52 G v0 v1 v2 v3 v4 K J3 v5 u → Wd G u s H locs → lv_has ls 7 [(0, .ref v0), (1, .int v1), (2, .int v2), (3, .int v3), (4, .int v4), (5, .int v5)] → W p l e { frames := 3, cells := 0, slots := 0, locals := 64 } s m ([.ref v0, .int v1, .int v2, .int v3, .int v4]).toArray below meth c H locs 0 0 (MQ below (va_Qi K (fun u' t => Wp G u' t.heap) (Ab G)) ([.ref v0, .int v1, .int v2, .int v3, .int v4]).toArray s 0 0 (Ab G)) (F0 m 52 ls []) := by
  have hx := F.1.1
  have hb := F.1.2.1
  intro v5 u H locs ls h hW hl
  unfold w_X0_papersTell_52 at h
  refine lv_iinc (v := (v5 + 1)) (lv' := [(5, .int (v5 + 1)), (0, .ref v0), (1, .int v1), (2, .int v2), (3, .int v3), (4, .int v4)]) hx hb dX0_papersTell_52 hl (k := 5) rfl rfl (by decide) rfl (fun ls hl9 => ?_)
  replace hl := hl9
  clear hl9
  refine lv_goto (tgt := 3) hx hb dX0_papersTell_55 (by decide) ?_
  exact hJ3 (v5 + 1) u _ _ _ h hW (lv_sub hl [1, 2, 3, 4, 5, 0] rfl)
set_option maxHeartbeats 4000000 in
set_option maxRecDepth 100000 in
theorem t_X0_papersTell_3 {p : Program} {l : Launch} {e : Env} {s : State} {m : MethodId} {below : List Frame} {meth : Method} {c : Code} {G : Ctx} (v0 : Nat) (v1 : Int32) (v2 : Int32) (v3 : Int32) (v4 : Int32) (F : Fx p l s m ([.ref v0, .int v1, .int v2, .int v3, .int v4]).toArray meth c cX0_papersTell 7 RX0 G) (hr : meth.sig.returnType = (some .boolean)) (K : Int32 → Mem → Prop) : ∀ (n : Nat), ∀ (v5 : Int32) (u : Mem) (H : Heap) (locs : List Loc) (ls : Array Slot), w_X0_papersTell_3 G v0 v1 v2 v3 v4 K n v5 u → Wd G u s H locs → lv_has ls 7 [(0, .ref v0), (1, .int v1), (2, .int v2), (3, .int v3), (4, .int v4), (5, .int v5)] → W p l e { frames := 3, cells := 0, slots := 0, locals := 64 } s m ([.ref v0, .int v1, .int v2, .int v3, .int v4]).toArray below meth c H locs 0 0 (MQ below (va_Qi K (fun u' t => Wp G u' t.heap) (Ab G)) ([.ref v0, .int v1, .int v2, .int v3, .int v4]).toArray s 0 0 (Ab G)) (F0 m 3 ls []) := by
  have hx := F.1.1
  have hb := F.1.2.1
  intro n
  induction n with
  | zero =>
    intro v5 u H locs ls h hW hl
    exact h.elim
  | succ n hJ3 =>
    intro v5 u H locs ls h hW hl
    have h : b_X0_papersTell_3 G v0 v1 v2 v3 v4 K (w_X0_papersTell_3 G v0 v1 v2 v3 v4 K n) v5 u := h
    revert h
    generalize w_X0_papersTell_3 G v0 v1 v2 v3 v4 K n = J3 at hJ3 ⊢
    intro h
    unfold b_X0_papersTell_3 at h
    refine lv_iload hx hb dX0_papersTell_3 (lv_at hl 5 rfl) ?_
    refine lv_aload_n hx hb dX0_papersTell_5 rfl (lv_at hl 0 rfl) ?_
    refine gf_1_0 F hW h.1 q_47 dX0_papersTell_6 ?_
    replace h := h.2
    obtain ⟨r29, er⟩ : ∃ z, z = mR u 32 v0 := ⟨_, rfl⟩
    rw [← er]
    replace h := h r29 er
    clear er
    obtain ⟨a30, ea, h⟩ := h
    subst ea
    obtain ⟨hob, h⟩ := h
    refine cI (runV (n := 0) (As := []) (rest := [.int v5]) F hW (c_Jx4a65c_size_8abf5 F.2.2.2 G a30 u _ h) hob (ci := 0) rfl q_236 q_93 q_94 q_16 q_95 rfl (by decide +kernel) ⟨Nat.le_of_ble_eq_true rfl, Nat.le_of_ble_eq_true rfl⟩ dX0_papersTell_9 rfl hl.1 (Nat.le_of_ble_eq_true rfl) ⟨Nat.zero_le _, Nat.zero_le _⟩) hW (fun r32 u31 h9 H locs hW => ?_)
    replace h := h9
    clear h9
    refine lv_icmp_ge (tgt := 58) hx hb dX0_papersTell_12 (by decide) (fun hc33 => ?_) (fun hc33 => ?_)
    · have h := h.1 hc33
      refine lv_iconst (v := (0 : Int32)) hx hb dX0_papersTell_58 (by decide) ?_
      exact retZ F hr hW h.1 h.2 dX0_papersTell_59
    · have h := h.2 hc33
      refine lv_aload_n hx hb dX0_papersTell_15 rfl (lv_at hl 0 rfl) ?_
      refine gf_1_0 F hW h.1 q_47 dX0_papersTell_16 ?_
      replace h := h.2
      obtain ⟨r34, er⟩ : ∃ z, z = mR u31 32 v0 := ⟨_, rfl⟩
      rw [← er]
      replace h := h r34 er
      clear er
      refine lv_iload hx hb dX0_papersTell_19 (lv_at hl 5 rfl) ?_
      obtain ⟨a35, ea, h⟩ := h
      subst ea
      obtain ⟨hob, h⟩ := h
      refine cQ (runV (n := 1) (As := [.int v5]) (rest := []) F hW (c_Jx4a65c_get_915e3 F.2.2.2 G a35 v5 u31 _ h) hob (ci := 0) rfl q_237 q_216 q_217 q_16 q_218 rfl (by decide +kernel) ⟨Nat.le_of_ble_eq_true rfl, Nat.le_of_ble_eq_true rfl⟩ dX0_papersTell_21 rfl hl.1 (Nat.le_of_ble_eq_true rfl) ⟨Nat.zero_le _, Nat.zero_le _⟩) hW (fun r37 u36 h9 H locs hW => ?_)
      replace h := h9
      clear h9
      obtain ⟨a38, ea, h⟩ := h
      subst ea
      refine rCast F hW h.1 (ci := 3) rfl q_303 dX0_papersTell_24 ?_
      replace h := h.2
      refine lv_astore (lv' := [(6, .ref a38), (0, .ref v0), (1, .int v1), (2, .int v2), (3, .int v3), (4, .int v4), (5, .int v5)]) hx hb dX0_papersTell_27 hl (by decide) rfl (fun ls hl9 => ?_)
      replace hl := hl9
      clear hl9
      refine lv_aload hx hb dX0_papersTell_29 (lv_at hl 0 rfl) ?_
      refine lv_iload_n hx hb dX0_papersTell_31 rfl (lv_at hl 2 rfl) ?_
      refine lv_iload_n hx hb dX0_papersTell_32 rfl (lv_at hl 3 rfl) ?_
      refine lv_iload_n hx hb dX0_papersTell_33 rfl (lv_at hl 4 rfl) ?_
      obtain ⟨hob, h⟩ := h
      refine cI (runV (n := 3) (As := [.int v1, .int v2, .int v3]) (rest := []) F hW (c_X2_isOf F.2.2.2 G a38 v1 v2 v3 u36 _ h) hob (ci := 3) rfl q_310 q_311 q_312 q_305 q_313 rfl (by decide +kernel) ⟨Nat.le_of_ble_eq_true rfl, Nat.le_of_ble_eq_true rfl⟩ dX0_papersTell_34 rfl hl.1 (Nat.le_of_ble_eq_true rfl) ⟨Nat.zero_le _, Nat.zero_le _⟩) hW (fun r40 u39 h9 H locs hW => ?_)
      replace h := h9
      clear h9
      refine lv_if_eq (tgt := 52) hx hb dX0_papersTell_37 (by decide) (fun hc41 => ?_) (fun hc41 => ?_)
      · have h := h.1 hc41
        exact t_X0_papersTell_52 v0 v1 v2 v3 v4 F hr K J3 hJ3 v5 u39 _ _ _ h hW (lv_sub hl [1, 2, 3, 4, 5, 6] rfl)
      · have h := h.2 hc41
        refine lv_aload hx hb dX0_papersTell_40 (lv_at hl 0 rfl) ?_
        refine gn_3_3 F hW h.1 (List.mem_of_getElem? (i := 14) rfl) dX0_papersTell_42 ?_
        replace h := h.2
        refine lv_iload hx hb dX0_papersTell_45 (lv_at hl 5 rfl) ?_
        refine lv_icmp_le (tgt := 52) hx hb dX0_papersTell_47 (by decide) (fun hc42 => ?_) (fun hc42 => ?_)
        · have h := h.1 hc42
          exact t_X0_papersTell_52 v0 v1 v2 v3 v4 F hr K J3 hJ3 v5 u39 _ _ _ h hW (lv_sub hl [1, 2, 3, 4, 5, 6] rfl)
        · have h := h.2 hc42
          refine lv_iconst (v := (1 : Int32)) hx hb dX0_papersTell_50 (by decide) ?_
          exact retZ F hr hW h.1 h.2 dX0_papersTell_51
set_option maxHeartbeats 4000000 in
set_option maxRecDepth 100000 in
theorem c_X0_papersTell {l : Launch} (hst : l.stackTraces = false) (G : Ctx) (v0 : Nat) (v1 : Int32) (v2 : Int32) (v3 : Int32) (v4 : Int32) (u : Mem) (K : Int32 → Mem → Prop) (h : w_X0_papersTell G v0 v1 v2 v3 v4 u K) : CtI l yX0_papersTell (.code yX0_papersTell cX0_papersTell 7 (some .boolean)) 3 64 0 0 G [.ref v0, .int v1, .int v2, .int v3, .int v4] u K := by
  refine entM (by first | decide | decide +kernel) hst (by first | decide | exact Nat.le_of_ble_eq_true rfl) (fun p e s m below meth c ls F hr hnm hW hl => ?_)
  have F : Fx p l s m ([.ref v0, .int v1, .int v2, .int v3, .int v4]).toArray meth c cX0_papersTell 7 RX0 G := F
  have hnm : meth.name = "papersTell" := hnm
  have hl : lv_has ls 7 [(0, .ref v0), (1, .int v1), (2, .int v2), (3, .int v3), (4, .int v4)] := hl
  have hx := F.1.1
  have hb := F.1.2.1
  unfold w_X0_papersTell at h
  refine lv_iconst (v := (0 : Int32)) hx hb dX0_papersTell_0 (by decide) ?_
  refine lv_istore (lv' := [(5, .int (0 : Int32)), (0, .ref v0), (1, .int v1), (2, .int v2), (3, .int v3), (4, .int v4)]) hx hb dX0_papersTell_1 hl (by decide) rfl (fun ls hl9 => ?_)
  replace hl := hl9
  clear hl9
  obtain ⟨n, h⟩ := h
  exact t_X0_papersTell_3 v0 v1 v2 v3 v4 F hr K n (0 : Int32) u _ _ _ h hW (lv_sub hl [1, 2, 3, 4, 5, 0] rfl)
set_option maxHeartbeats 4000000 in
set_option maxRecDepth 100000 in
theorem c_X3_setVote {l : Launch} (hst : l.stackTraces = false) (G : Ctx) (v0 : Nat) (v1 : Int32) (v2 : Int32) (u : Mem) (K : Mem → Prop) (h : w_X3_setVote G v0 v1 v2 u K) : CtV l yX3_setVote (.code yX3_setVote cX3_setVote 3 none) 0 0 0 0 G [.ref v0, .int v1, .int v2] u K := by
  refine entM (by first | decide | decide +kernel) hst (by first | decide | exact Nat.le_of_ble_eq_true rfl) (fun p e s m below meth c ls F hr hnm hW hl => ?_)
  have F : Fx p l s m ([.ref v0, .int v1, .int v2]).toArray meth c cX3_setVote 3 RX3 G := F
  have hnm : meth.name = "setVote" := hnm
  have hl : lv_has ls 3 [(0, .ref v0), (1, .int v1), (2, .int v2)] := hl
  have hx := F.1.1
  have hb := F.1.2.1
  unfold w_X3_setVote at h
  refine lv_iload_n hx hb dX3_setVote_0 rfl (lv_at hl 1 rfl) ?_
  refine lv_if_lt (tgt := 20) hx hb dX3_setVote_1 (by decide) (fun hc1 => ?_) (fun hc1 => ?_)
  · have h := h.1 hc1
    exact retV F hr hW h dX3_setVote_20
  · have h := h.2 hc1
    refine lv_iload_n hx hb dX3_setVote_4 rfl (lv_at hl 1 rfl) ?_
    refine lv_aload_n hx hb dX3_setVote_5 rfl (lv_at hl 0 rfl) ?_
    refine gf_4_3 F hW h.1 q_57 dX3_setVote_6 ?_
    replace h := h.2
    obtain ⟨r2, er⟩ : ∃ z, z = mR u 131 v0 := ⟨_, rfl⟩
    rw [← er]
    replace h := h r2 er
    clear er
    obtain ⟨a3, ea, h⟩ := h
    subst ea
    refine rLen_8 F hW h.1 dX3_setVote_9 ?_
    replace h := h.2
    refine lv_icmp_ge (tgt := 20) hx hb dX3_setVote_10 (by decide) (fun hc4 => ?_) (fun hc4 => ?_)
    · have h := h.1 hc4
      exact retV F hr hW h dX3_setVote_20
    · have h := h.2 hc4
      refine lv_aload_n hx hb dX3_setVote_13 rfl (lv_at hl 0 rfl) ?_
      refine gf_4_3 F hW h.1 q_57 dX3_setVote_14 ?_
      replace h := h.2
      obtain ⟨r5, er⟩ : ∃ z, z = mR u 131 v0 := ⟨_, rfl⟩
      rw [← er]
      replace h := h r5 er
      clear er
      refine lv_iload_n hx hb dX3_setVote_17 rfl (lv_at hl 1 rfl) ?_
      refine lv_iload_n hx hb dX3_setVote_18 rfl (lv_at hl 2 rfl) ?_
      obtain ⟨a6, ea, h⟩ := h
      subst ea
      refine rIast F hW h.1 h.2.1 dX3_setVote_19 (fun H locs hW => ?_)
      replace h := h.2.2
      obtain ⟨u7, eu⟩ : ∃ z, z = setA u a6 (v1.toNatClampNeg) v2 := ⟨_, rfl⟩
      rw [← eu] at hW
      replace h := h u7 eu
      clear eu
      exact retV F hr hW h dX3_setVote_20
set_option maxHeartbeats 4000000 in
set_option maxRecDepth 100000 in
theorem t_X3_daysKept_21 {p : Program} {l : Launch} {e : Env} {s : State} {m : MethodId} {below : List Frame} {meth : Method} {c : Code} {G : Ctx} (v0 : Nat) (F : Fx p l s m ([.ref v0]).toArray meth c cX3_daysKept 8 RX3 G) (hr : meth.sig.returnType = (some .int)) (K : Int32 → Mem → Prop) : ∀ (n : Nat), ∀ (v1 : Int32) (v2 : Int32) (v3 : Int32) (v4 : Nat) (v5 : Int32) (v6 : Int32) (u : Mem) (H : Heap) (locs : List Loc) (ls : Array Slot), w_X3_daysKept_21 G v0 K n v1 v2 v3 v4 v5 v6 u → Wd G u s H locs → lv_has ls 8 [(0, .ref v0), (1, .int v1), (2, .int v2), (3, .int v3), (4, .ref v4), (5, .int v5), (6, .int v6)] → W p l e { frames := 1, cells := 0, slots := 0, locals := 30 } s m ([.ref v0]).toArray below meth c H locs 0 0 (MQ below (va_Qi K (fun u' t => Wp G u' t.heap) (Ab G)) ([.ref v0]).toArray s 0 0 (Ab G)) (F0 m 21 ls []) := by
  have hx := F.1.1
  have hb := F.1.2.1
  intro n
  induction n with
  | zero =>
    intro v1 v2 v3 v4 v5 v6 u H locs ls h hW hl
    exact h.elim
  | succ n hJ21 =>
    intro v1 v2 v3 v4 v5 v6 u H locs ls h hW hl
    have h : b_X3_daysKept_21 G v0 K (w_X3_daysKept_21 G v0 K n) v1 v2 v3 v4 v5 v6 u := h
    revert h
    generalize w_X3_daysKept_21 G v0 K n = J21 at hJ21 ⊢
    intro h
    unfold b_X3_daysKept_21 at h
    refine lv_iload hx hb dX3_daysKept_21 (lv_at hl 6 rfl) ?_
    refine lv_iload hx hb dX3_daysKept_23 (lv_at hl 5 rfl) ?_
    refine lv_icmp_ge (tgt := 60) hx hb dX3_daysKept_25 (by decide) (fun hc5 => ?_) (fun hc5 => ?_)
    · have h := h.1 hc5
      refine lv_iload_n hx hb dX3_daysKept_60 rfl (lv_at hl 1 rfl) ?_
      refine lv_iload_n hx hb dX3_daysKept_61 rfl (lv_at hl 2 rfl) ?_
      refine lv_isub hx hb dX3_daysKept_62 ?_
      refine lv_iload_n hx hb dX3_daysKept_63 rfl (lv_at hl 3 rfl) ?_
      refine lv_isub hx hb dX3_daysKept_64 ?_
      exact retI F hr hW h dX3_daysKept_65
    · have h := h.2 hc5
      refine lv_aload hx hb dX3_daysKept_28 (lv_at hl 4 rfl) ?_
      refine lv_iload hx hb dX3_daysKept_30 (lv_at hl 6 rfl) ?_
      refine rIald F hW h.1 h.2.1 dX3_daysKept_32 ?_
      replace h := h.2.2
      refine lv_istore (lv' := [(7, .int (mA u v4 v6.toNatClampNeg)), (0, .ref v0), (1, .int v1), (2, .int v2), (3, .int v3), (4, .ref v4), (5, .int v5), (6, .int v6)]) hx hb dX3_daysKept_33 hl (by decide) rfl (fun ls hl9 => ?_)
      replace hl := hl9
      clear hl9
      refine lv_iload_n hx hb dX3_daysKept_35 rfl (lv_at hl 2 rfl) ?_
      refine lv_iload hx hb dX3_daysKept_36 (lv_at hl 0 rfl) ?_
      refine lv_iadd hx hb dX3_daysKept_38 ?_
      refine lv_istore_n (lv' := [(1, .int (v1 + (mA u v4 v6.toNatClampNeg))), (7, .int (mA u v4 v6.toNatClampNeg)), (0, .ref v0), (2, .int v2), (3, .int v3), (4, .ref v4), (5, .int v5), (6, .int v6)]) hx hb dX3_daysKept_39 rfl hl (by decide) rfl (fun ls hl9 => ?_)
      replace hl := hl9
      clear hl9
      refine lv_iload_n hx hb dX3_daysKept_40 rfl (lv_at hl 3 rfl) ?_
      refine lv_iload hx hb dX3_daysKept_41 (lv_at hl 1 rfl) ?_
      refine rMin F hl.1 q_189 (Nat.le_of_ble_eq_true rfl) (Nat.le_of_ble_eq_true rfl) (Nat.zero_le _) (Nat.zero_le _) dX3_daysKept_43 ?_
      refine lv_istore_n (lv' := [(2, .int (if (mA u v4 v6.toNatClampNeg) < v2 then (mA u v4 v6.toNatClampNeg) else v2)), (1, .int (v1 + (mA u v4 v6.toNatClampNeg))), (7, .int (mA u v4 v6.toNatClampNeg)), (0, .ref v0), (3, .int v3), (4, .ref v4), (5, .int v5), (6, .int v6)]) hx hb dX3_daysKept_46 rfl hl (by decide) rfl (fun ls hl9 => ?_)
      replace hl := hl9
      clear hl9
      refine lv_iload_n hx hb dX3_daysKept_47 rfl (lv_at hl 4 rfl) ?_
      refine lv_iload hx hb dX3_daysKept_48 (lv_at hl 2 rfl) ?_
      refine rMax F hl.1 q_190 (Nat.le_of_ble_eq_true rfl) (Nat.le_of_ble_eq_true rfl) (Nat.zero_le _) (Nat.zero_le _) dX3_daysKept_50 ?_
      refine lv_istore_n (lv' := [(3, .int (if v3 < (mA u v4 v6.toNatClampNeg) then (mA u v4 v6.toNatClampNeg) else v3)), (2, .int (if (mA u v4 v6.toNatClampNeg) < v2 then (mA u v4 v6.toNatClampNeg) else v2)), (1, .int (v1 + (mA u v4 v6.toNatClampNeg))), (7, .int (mA u v4 v6.toNatClampNeg)), (0, .ref v0), (4, .ref v4), (5, .int v5), (6, .int v6)]) hx hb dX3_daysKept_53 rfl hl (by decide) rfl (fun ls hl9 => ?_)
      replace hl := hl9
      clear hl9
      refine lv_iinc (v := (v6 + 1)) (lv' := [(6, .int (v6 + 1)), (3, .int (if v3 < (mA u v4 v6.toNatClampNeg) then (mA u v4 v6.toNatClampNeg) else v3)), (2, .int (if (mA u v4 v6.toNatClampNeg) < v2 then (mA u v4 v6.toNatClampNeg) else v2)), (1, .int (v1 + (mA u v4 v6.toNatClampNeg))), (7, .int (mA u v4 v6.toNatClampNeg)), (0, .ref v0), (4, .ref v4), (5, .int v5)]) hx hb dX3_daysKept_54 hl (k := 7) rfl rfl (by decide) rfl (fun ls hl9 => ?_)
      replace hl := hl9
      clear hl9
      refine lv_goto (tgt := 21) hx hb dX3_daysKept_57 (by decide) ?_
      exact hJ21 (v1 + (mA u v4 v6.toNatClampNeg)) (if (mA u v4 v6.toNatClampNeg) < v2 then (mA u v4 v6.toNatClampNeg) else v2) (if v3 < (mA u v4 v6.toNatClampNeg) then (mA u v4 v6.toNatClampNeg) else v3) v4 v5 (v6 + 1) u _ _ _ h hW (lv_sub hl [5, 3, 2, 1, 6, 7, 0] rfl)
set_option maxHeartbeats 4000000 in
set_option maxRecDepth 100000 in
theorem c_X3_daysKept {l : Launch} (hst : l.stackTraces = false) (G : Ctx) (v0 : Nat) (u : Mem) (K : Int32 → Mem → Prop) (h : w_X3_daysKept G v0 u K) : CtI l yX3_daysKept (.code yX3_daysKept cX3_daysKept 8 (some .int)) 1 30 0 0 G [.ref v0] u K := by
  refine entM (by first | decide | decide +kernel) hst (by first | decide | exact Nat.le_of_ble_eq_true rfl) (fun p e s m below meth c ls F hr hnm hW hl => ?_)
  have F : Fx p l s m ([.ref v0]).toArray meth c cX3_daysKept 8 RX3 G := F
  have hnm : meth.name = "daysKept" := hnm
  have hl : lv_has ls 8 [(0, .ref v0)] := hl
  have hx := F.1.1
  have hb := F.1.2.1
  unfold w_X3_daysKept at h
  refine lv_iconst (v := (0 : Int32)) hx hb dX3_daysKept_0 (by decide) ?_
  refine lv_istore_n (lv' := [(1, .int (0 : Int32)), (0, .ref v0)]) hx hb dX3_daysKept_1 rfl hl (by decide) rfl (fun ls hl9 => ?_)
  replace hl := hl9
  clear hl9
  refine lv_bipush (v := (30 : Int32)) hx hb dX3_daysKept_2 (by decide) ?_
  refine lv_istore_n (lv' := [(2, .int (30 : Int32)), (1, .int (0 : Int32)), (0, .ref v0)]) hx hb dX3_daysKept_4 rfl hl (by decide) rfl (fun ls hl9 => ?_)
  replace hl := hl9
  clear hl9
  refine lv_iconst (v := (1 : Int32)) hx hb dX3_daysKept_5 (by decide) ?_
  refine lv_istore_n (lv' := [(3, .int (1 : Int32)), (2, .int (30 : Int32)), (1, .int (0 : Int32)), (0, .ref v0)]) hx hb dX3_daysKept_6 rfl hl (by decide) rfl (fun ls hl9 => ?_)
  replace hl := hl9
  clear hl9
  refine lv_aload_n hx hb dX3_daysKept_7 rfl (lv_at hl 3 rfl) ?_
  refine gf_4_3 F hW h.1 q_57 dX3_daysKept_8 ?_
  replace h := h.2
  obtain ⟨r1, er⟩ : ∃ z, z = mR u 131 v0 := ⟨_, rfl⟩
  rw [← er]
  replace h := h r1 er
  clear er
  refine rSt (lv' := [(4, va_rf r1), (3, .int (1 : Int32)), (2, .int (30 : Int32)), (1, .int (0 : Int32)), (0, .ref v0)]) F dX3_daysKept_11 hl (by decide) rfl (fun ls hl9 => ?_)
  replace hl := hl9
  clear hl9
  refine rLd F dX3_daysKept_13 (lv_at hl 0 rfl) ?_
  obtain ⟨a2, ea, h⟩ := h
  subst ea
  refine rLen_8 F hW h.1 dX3_daysKept_15 ?_
  replace h := h.2
  refine lv_istore (lv' := [(5, .int (nI (mN u a2))), (4, .ref a2), (3, .int (1 : Int32)), (2, .int (30 : Int32)), (1, .int (0 : Int32)), (0, .ref v0)]) hx hb dX3_daysKept_16 hl (by decide) rfl (fun ls hl9 => ?_)
  replace hl := hl9
  clear hl9
  refine lv_iconst (v := (0 : Int32)) hx hb dX3_daysKept_18 (by decide) ?_
  refine lv_istore (lv' := [(6, .int (0 : Int32)), (5, .int (nI (mN u a2))), (4, .ref a2), (3, .int (1 : Int32)), (2, .int (30 : Int32)), (1, .int (0 : Int32)), (0, .ref v0)]) hx hb dX3_daysKept_19 hl (by decide) rfl (fun ls hl9 => ?_)
  replace hl := hl9
  clear hl9
  obtain ⟨n, h⟩ := h
  exact t_X3_daysKept_21 v0 F hr K n (0 : Int32) (30 : Int32) (1 : Int32) a2 (nI (mN u a2)) (0 : Int32) u _ _ _ h hW (lv_sub hl [6, 5, 4, 3, 2, 1, 0] rfl)
set_option maxHeartbeats 4000000 in
set_option maxRecDepth 100000 in
theorem c_X0_init {l : Launch} (hst : l.stackTraces = false) (G : Ctx) (v0 : Nat) (MC MS : Nat) (u : Mem) (K : Mem → Prop) (h : w_X0_init G v0 MC MS u K) : CtV l yX0_init (.code yX0_init cX0_init 1 none) 4 90 MC MS G [.ref v0] u K := by
  refine entM (by first | decide | decide +kernel) hst (by first | decide | exact Nat.le_of_ble_eq_true rfl) (fun p e s m below meth c ls F hr hnm hW hl => ?_)
  have F : Fx p l s m ([.ref v0]).toArray meth c cX0_init 1 RX0 G := F
  have hnm : meth.name = "<init>" := hnm
  have hl : lv_has ls 1 [(0, .ref v0)] := hl
  have hx := F.1.1
  have hb := F.1.2.1
  have hbc : 0 + MC = MC := Nat.zero_add _
  have hbs : 0 + MS = MS := Nat.zero_add _
  unfold w_X0_init at h
  refine lv_aload_n hx hb dX0_init_0 rfl (lv_at hl 0 rfl) ?_
  refine W.objInit hx hb F.1.2.2.2.1 (F.1.2.2.2.2 _ q_45) (F.1.2.2.2.2 _ q_8) (F.1.2.2.2.2 _ q_9) rfl (by rw [F.1.2.2.1]; exact hl.1) rfl dX0_init_1 (Nat.le_of_ble_eq_true rfl) (Nat.le_of_ble_eq_true rfl) ?_
  refine W.eq (g2 := F0 m 4 ls []) rfl ?_
  refine lv_aload_n hx hb dX0_init_4 rfl (lv_at hl 0 rfl) ?_
  obtain ⟨h1, h2, h⟩ := h
  refine nw_0 (R := ⟨4, MC, MS, 90⟩) F hW q_46 q_15 q_16 hbc hbs h1 h2 dX0_init_5 (fun q1 H hq hW => ?_)
  replace h := h q1 hq
  replace hbc := bdg hbc h1
  replace hbs := bdg hbs h2
  clear h1 h2
  obtain ⟨u2, eu⟩ : ∃ z, z = mNew u q1 0 0 := ⟨_, rfl⟩
  rw [← eu] at hW
  replace h := h u2 eu
  clear eu
  refine lv_dup hx hb dX0_init_8 rfl ?_
  refine cV (runI (n := 0) (As := []) (rest := [.ref q1, .ref v0]) F hW (c_Jx4a65c_init_da8c8 F.2.2.2 G q1 u2 _ h) q_49 q_29 q_16 q_30 rfl (by decide +kernel) ⟨Nat.le_of_ble_eq_true rfl, Nat.le_of_ble_eq_true rfl⟩ dX0_init_9 rfl hl.1 (Nat.le_of_ble_eq_true rfl) ⟨Nat.le.intro hbc, Nat.le.intro hbs⟩) hW (fun u3 h9 H locs hW => ?_)
  replace h := h9
  clear h9
  refine pf_1_0 F hW hnm (x := (some q1)) h.1 q_47 dX0_init_12 (fun H locs hW => ?_)
  replace h := h.2
  obtain ⟨u5, eu⟩ : ∃ z, z = setR u3 32 v0 (some q1) := ⟨_, rfl⟩
  rw [← eu] at hW
  replace h := h u5 eu
  clear eu
  refine lv_aload_n hx hb dX0_init_15 rfl (lv_at hl 0 rfl) ?_
  obtain ⟨h1, h2, h⟩ := h
  refine nw_0 (R := ⟨4, MC, MS, 90⟩) F hW q_46 q_15 q_16 hbc hbs h1 h2 dX0_init_16 (fun q6 H hq hW => ?_)
  replace h := h q6 hq
  replace hbc := bdg hbc h1
  replace hbs := bdg hbs h2
  clear h1 h2
  obtain ⟨u7, eu⟩ : ∃ z, z = mNew u5 q6 0 0 := ⟨_, rfl⟩
  rw [← eu] at hW
  replace h := h u7 eu
  clear eu
  refine lv_dup hx hb dX0_init_19 rfl ?_
  refine cV (runI (n := 0) (As := []) (rest := [.ref q6, .ref v0]) F hW (c_Jx4a65c_init_da8c8 F.2.2.2 G q6 u7 _ h) q_49 q_29 q_16 q_30 rfl (by decide +kernel) ⟨Nat.le_of_ble_eq_true rfl, Nat.le_of_ble_eq_true rfl⟩ dX0_init_20 rfl hl.1 (Nat.le_of_ble_eq_true rfl) ⟨Nat.le.intro hbc, Nat.le.intro hbs⟩) hW (fun u8 h9 H locs hW => ?_)
  replace h := h9
  clear h9
  refine pf_1_1 F hW hnm (x := (some q6)) h.1 q_48 dX0_init_23 (fun H locs hW => ?_)
  replace h := h.2
  obtain ⟨u10, eu⟩ : ∃ z, z = setR u8 33 v0 (some q6) := ⟨_, rfl⟩
  rw [← eu] at hW
  replace h := h u10 eu
  clear eu
  refine W.widen (k := MC) (n := MS) (Nat.le.intro hbc) (Nat.le.intro hbs) ?_
  exact retV F hr hW h dX0_init_26
set_option maxHeartbeats 4000000 in
set_option maxRecDepth 100000 in
theorem c_X2_init {l : Launch} (hst : l.stackTraces = false) (G : Ctx) (v0 : Nat) (v1 : Int32) (v2 : Int32) (v3 : Int32) (v4 : Int32) (u : Mem) (K : Mem → Prop) (h : w_X2_init G v0 v1 v2 v3 v4 u K) : CtV l yX2_init (.code yX2_init cX2_init 5 none) 1 30 0 0 G [.ref v0, .int v1, .int v2, .int v3, .int v4] u K := by
  refine entM (by first | decide | decide +kernel) hst (by first | decide | exact Nat.le_of_ble_eq_true rfl) (fun p e s m below meth c ls F hr hnm hW hl => ?_)
  have F : Fx p l s m ([.ref v0, .int v1, .int v2, .int v3, .int v4]).toArray meth c cX2_init 5 RX2 G := F
  have hnm : meth.name = "<init>" := hnm
  have hl : lv_has ls 5 [(0, .ref v0), (1, .int v1), (2, .int v2), (3, .int v3), (4, .int v4)] := hl
  have hx := F.1.1
  have hb := F.1.2.1
  unfold w_X2_init at h
  refine lv_aload_n hx hb dX2_init_0 rfl (lv_at hl 0 rfl) ?_
  refine W.objInit hx hb F.1.2.2.2.1 (F.1.2.2.2.2 _ q_320) (F.1.2.2.2.2 _ q_8) (F.1.2.2.2.2 _ q_9) rfl (by rw [F.1.2.2.1]; exact hl.1) rfl dX2_init_1 (Nat.le_of_ble_eq_true rfl) (Nat.le_of_ble_eq_true rfl) ?_
  refine W.eq (g2 := F0 m 4 ls []) rfl ?_
  refine lv_aload_n hx hb dX2_init_4 rfl (lv_at hl 0 rfl) ?_
  refine lv_iload_n hx hb dX2_init_5 rfl (lv_at hl 1 rfl) ?_
  refine pf_3_0 F hW hnm (x := v1) h.1 q_314 dX2_init_6 (fun H locs hW => ?_)
  replace h := h.2
  obtain ⟨u1, eu⟩ : ∃ z, z = setI u 96 v0 v1 := ⟨_, rfl⟩
  rw [← eu] at hW
  replace h := h u1 eu
  clear eu
  refine lv_aload_n hx hb dX2_init_9 rfl (lv_at hl 0 rfl) ?_
  refine lv_iload_n hx hb dX2_init_10 rfl (lv_at hl 2 rfl) ?_
  refine pf_3_1 F hW hnm (x := v2) h.1 q_315 dX2_init_11 (fun H locs hW => ?_)
  replace h := h.2
  obtain ⟨u2, eu⟩ : ∃ z, z = setI u1 97 v0 v2 := ⟨_, rfl⟩
  rw [← eu] at hW
  replace h := h u2 eu
  clear eu
  refine lv_aload_n hx hb dX2_init_14 rfl (lv_at hl 0 rfl) ?_
  refine lv_iload_n hx hb dX2_init_15 rfl (lv_at hl 3 rfl) ?_
  refine pf_3_2 F hW hnm (x := v3) h.1 q_316 dX2_init_16 (fun H locs hW => ?_)
  replace h := h.2
  obtain ⟨u3, eu⟩ : ∃ z, z = setI u2 98 v0 v3 := ⟨_, rfl⟩
  rw [← eu] at hW
  replace h := h u3 eu
  clear eu
  refine lv_aload_n hx hb dX2_init_19 rfl (lv_at hl 0 rfl) ?_
  refine lv_iload hx hb dX2_init_20 (lv_at hl 4 rfl) ?_
  refine pf_3_3 F hW hnm (x := v4) h.1 q_321 dX2_init_22 (fun H locs hW => ?_)
  replace h := h.2
  obtain ⟨u4, eu⟩ : ∃ z, z = setI u3 99 v0 v4 := ⟨_, rfl⟩
  rw [← eu] at hW
  replace h := h u4 eu
  clear eu
  exact retV F hr hW h dX2_init_25
set_option maxHeartbeats 4000000 in
set_option maxRecDepth 100000 in
theorem c_X0_take {l : Launch} (hst : l.stackTraces = false) (G : Ctx) (v0 : Nat) (v1 : Int32) (v2 : Int32) (v3 : Int32) (v4 : Int32) (MC MS : Nat) (u : Mem) (K : Mem → Prop) (h : w_X0_take G v0 v1 v2 v3 v4 MC MS u K) : CtV l yX0_take (.code yX0_take cX0_take 6 none) 7 191 MC MS G [.ref v0, .int v1, .int v2, .int v3, .int v4] u K := by
  refine entM (by first | decide | decide +kernel) hst (by first | decide | exact Nat.le_of_ble_eq_true rfl) (fun p e s m below meth c ls F hr hnm hW hl => ?_)
  have F : Fx p l s m ([.ref v0, .int v1, .int v2, .int v3, .int v4]).toArray meth c cX0_take 6 RX0 G := F
  have hnm : meth.name = "take" := hnm
  have hl : lv_has ls 6 [(0, .ref v0), (1, .int v1), (2, .int v2), (3, .int v3), (4, .int v4)] := hl
  have hx := F.1.1
  have hb := F.1.2.1
  have hbc : 0 + MC = MC := Nat.zero_add _
  have hbs : 0 + MS = MS := Nat.zero_add _
  unfold w_X0_take at h
  refine lv_aload_n hx hb dX0_take_0 rfl (lv_at hl 0 rfl) ?_
  refine gf_1_0 F hW h.1 q_47 dX0_take_1 ?_
  replace h := h.2
  obtain ⟨r1, er⟩ : ∃ z, z = mR u 32 v0 := ⟨_, rfl⟩
  rw [← er]
  replace h := h r1 er
  clear er
  obtain ⟨a2, ea, h⟩ := h
  subst ea
  obtain ⟨hob, h⟩ := h
  refine cI (runV (n := 0) (As := []) (rest := []) F hW (c_Jx4a65c_size_8abf5 F.2.2.2 G a2 u _ h) hob (ci := 0) rfl q_236 q_93 q_94 q_16 q_95 rfl (by decide +kernel) ⟨Nat.le_of_ble_eq_true rfl, Nat.le_of_ble_eq_true rfl⟩ dX0_take_4 rfl hl.1 (Nat.le_of_ble_eq_true rfl) ⟨Nat.le.intro hbc, Nat.le.intro hbs⟩) hW (fun r4 u3 h9 H locs hW => ?_)
  replace h := h9
  clear h9
  refine lv_sipush (v := (300 : Int32)) hx hb dX0_take_7 (by decide) ?_
  refine lv_icmp_ge (tgt := 23) hx hb dX0_take_10 (by decide) (fun hc5 => ?_) (fun hc5 => ?_)
  · have h := h.1 hc5
    refine W.widen (k := MC) (n := MS) (Nat.le.intro hbc) (Nat.le.intro hbs) ?_
    exact retV F hr hW h dX0_take_23
  · have h := h.2 hc5
    refine lv_aload_n hx hb dX0_take_13 rfl (lv_at hl 0 rfl) ?_
    refine lv_iload_n hx hb dX0_take_14 rfl (lv_at hl 1 rfl) ?_
    refine lv_iload_n hx hb dX0_take_15 rfl (lv_at hl 2 rfl) ?_
    refine lv_iload_n hx hb dX0_take_16 rfl (lv_at hl 3 rfl) ?_
    obtain ⟨hob, h⟩ := h
    refine cI (runV (n := 3) (As := [.int v1, .int v2, .int v3]) (rest := []) F hW (c_X0_keeps F.2.2.2 G v0 v1 v2 v3 u3 _ h) hob (ci := 1) rfl q_306 q_307 q_308 q_20 q_309 rfl (by decide +kernel) ⟨Nat.le_of_ble_eq_true rfl, Nat.le_of_ble_eq_true rfl⟩ dX0_take_17 rfl hl.1 (Nat.le_of_ble_eq_true rfl) ⟨Nat.le.intro hbc, Nat.le.intro hbs⟩) hW (fun r7 u6 h9 H locs hW => ?_)
    replace h := h9
    clear h9
    refine lv_if_eq (tgt := 24) hx hb dX0_take_20 (by decide) (fun hc8 => ?_) (fun hc8 => ?_)
    · have h := h.1 hc8
      obtain ⟨h1, h2, h⟩ := h
      refine nw_3 (R := ⟨7, MC, MS, 191⟩) F hW q_303 q_304 q_305 hbc hbs h1 h2 dX0_take_24 (fun q9 H hq hW => ?_)
      replace h := h q9 hq
      replace hbc := bdg hbc h1
      replace hbs := bdg hbs h2
      clear h1 h2
      obtain ⟨u10, eu⟩ : ∃ z, z = mNew u6 q9 3 0 := ⟨_, rfl⟩
      rw [← eu] at hW
      replace h := h u10 eu
      clear eu
      refine lv_dup hx hb dX0_take_27 rfl ?_
      refine lv_iload_n hx hb dX0_take_28 rfl (lv_at hl 1 rfl) ?_
      refine lv_iload_n hx hb dX0_take_29 rfl (lv_at hl 2 rfl) ?_
      refine lv_iload_n hx hb dX0_take_30 rfl (lv_at hl 3 rfl) ?_
      refine lv_iload hx hb dX0_take_31 (lv_at hl 4 rfl) ?_
      refine cV (runI (n := 4) (As := [.int v1, .int v2, .int v3, .int v4]) (rest := [.ref q9]) F hW (c_X2_init F.2.2.2 G q9 v1 v2 v3 v4 u10 _ h) q_317 q_318 q_305 q_319 rfl (by decide +kernel) ⟨Nat.le_of_ble_eq_true rfl, Nat.le_of_ble_eq_true rfl⟩ dX0_take_33 rfl hl.1 (Nat.le_of_ble_eq_true rfl) ⟨Nat.le.intro hbc, Nat.le.intro hbs⟩) hW (fun u11 h9 H locs hW => ?_)
      replace h := h9
      clear h9
      refine lv_astore (lv' := [(5, .ref q9), (0, .ref v0), (1, .int v1), (2, .int v2), (3, .int v3), (4, .int v4)]) hx hb dX0_take_36 hl (by decide) rfl (fun ls hl9 => ?_)
      replace hl := hl9
      clear hl9
      refine lv_aload_n hx hb dX0_take_38 rfl (lv_at hl 1 rfl) ?_
      refine gf_1_0 F hW h.1 q_47 dX0_take_39 ?_
      replace h := h.2
      obtain ⟨r13, er⟩ : ∃ z, z = mR u11 32 v0 := ⟨_, rfl⟩
      rw [← er]
      replace h := h r13 er
      clear er
      refine lv_aload hx hb dX0_take_42 (lv_at hl 0 rfl) ?_
      obtain ⟨a14, ea, h⟩ := h
      subst ea
      obtain ⟨c17, b18, h1, h2, h⟩ := h
      have hf1 := bdf hbc h1
      have hf2 := bdf hbs h2
      obtain ⟨hob, h⟩ := h
      refine cI (runV (n := 1) (As := [.ref q9]) (rest := []) F hW (c_Jx4a65c_add_9ea2d F.2.2.2 G a14 q9 c17 b18 u11 _ h) hob (ci := 0) rfl q_322 q_109 q_110 q_16 q_111 rfl (by decide +kernel) ⟨Nat.le_of_ble_eq_true rfl, Nat.le_of_ble_eq_true rfl⟩ dX0_take_44 rfl hl.1 (Nat.le_of_ble_eq_true rfl) ⟨hf1, hf2⟩) hW (fun r16 u15 h9 H locs hW => ?_)
      replace h := h9
      clear h9
      replace hbc := bdg hbc h1
      replace hbs := bdg hbs h2
      clear h1 h2 hf1 hf2
      refine lv_pop hx hb dX0_take_47 rfl ?_
      refine lv_aload_n hx hb dX0_take_48 rfl (lv_at hl 1 rfl) ?_
      refine gf_1_1 F hW h.1 q_48 dX0_take_49 ?_
      replace h := h.2
      obtain ⟨r19, er⟩ : ∃ z, z = mR u15 33 v0 := ⟨_, rfl⟩
      rw [← er]
      replace h := h r19 er
      clear er
      refine lv_aload hx hb dX0_take_52 (lv_at hl 0 rfl) ?_
      obtain ⟨a20, ea, h⟩ := h
      subst ea
      obtain ⟨c23, b24, h1, h2, h⟩ := h
      have hf1 := bdf hbc h1
      have hf2 := bdf hbs h2
      obtain ⟨hob, h⟩ := h
      refine cI (runV (n := 1) (As := [.ref q9]) (rest := []) F hW (c_Jx4a65c_add_9ea2d F.2.2.2 G a20 q9 c23 b24 u15 _ h) hob (ci := 0) rfl q_322 q_109 q_110 q_16 q_111 rfl (by decide +kernel) ⟨Nat.le_of_ble_eq_true rfl, Nat.le_of_ble_eq_true rfl⟩ dX0_take_54 rfl hl.1 (Nat.le_of_ble_eq_true rfl) ⟨hf1, hf2⟩) hW (fun r22 u21 h9 H locs hW => ?_)
      replace h := h9
      clear h9
      replace hbc := bdg hbc h1
      replace hbs := bdg hbs h2
      clear h1 h2 hf1 hf2
      refine lv_pop hx hb dX0_take_57 rfl ?_
      refine W.widen (k := MC) (n := MS) (Nat.le.intro hbc) (Nat.le.intro hbs) ?_
      exact retV F hr hW h dX0_take_58
    · have h := h.2 hc8
      refine W.widen (k := MC) (n := MS) (Nat.le.intro hbc) (Nat.le.intro hbs) ?_
      exact retV F hr hW h dX0_take_23
set_option maxHeartbeats 4000000 in
set_option maxRecDepth 100000 in
theorem c_X1_init {l : Launch} (hst : l.stackTraces = false) (G : Ctx) (v0 : Nat) (v1 : Int32) (u : Mem) (K : Mem → Prop) (h : w_X1_init G v0 v1 u K) : CtV l yX1_init (.code yX1_init cX1_init 2 none) 1 30 0 0 G [.ref v0, .int v1] u K := by
  refine entM (by first | decide | decide +kernel) hst (by first | decide | exact Nat.le_of_ble_eq_true rfl) (fun p e s m below meth c ls F hr hnm hW hl => ?_)
  have F : Fx p l s m ([.ref v0, .int v1]).toArray meth c cX1_init 2 RX1 G := F
  have hnm : meth.name = "<init>" := hnm
  have hl : lv_has ls 2 [(0, .ref v0), (1, .int v1)] := hl
  have hx := F.1.1
  have hb := F.1.2.1
  unfold w_X1_init at h
  refine lv_aload_n hx hb dX1_init_0 rfl (lv_at hl 0 rfl) ?_
  refine W.objInit hx hb F.1.2.2.2.1 (F.1.2.2.2.2 _ q_61) (F.1.2.2.2.2 _ q_8) (F.1.2.2.2.2 _ q_9) rfl (by rw [F.1.2.2.1]; exact hl.1) rfl dX1_init_1 (Nat.le_of_ble_eq_true rfl) (Nat.le_of_ble_eq_true rfl) ?_
  refine W.eq (g2 := F0 m 4 ls []) rfl ?_
  refine lv_aload_n hx hb dX1_init_4 rfl (lv_at hl 0 rfl) ?_
  refine lv_iconst (v := (0 : Int32)) hx hb dX1_init_5 (by decide) ?_
  refine pf_2_1 F hW (x := (0 : Int32)) h.1 q_62 dX1_init_6 (fun H locs hW => ?_)
  replace h := h.2
  obtain ⟨u1, eu⟩ : ∃ z, z = setI u 65 v0 (0 : Int32) := ⟨_, rfl⟩
  rw [← eu] at hW
  replace h := h u1 eu
  clear eu
  refine lv_aload_n hx hb dX1_init_9 rfl (lv_at hl 0 rfl) ?_
  refine lv_bipush (v := (50 : Int32)) hx hb dX1_init_10 (by decide) ?_
  refine pf_2_2 F hW (x := (50 : Int32)) h.1 q_63 dX1_init_12 (fun H locs hW => ?_)
  replace h := h.2
  obtain ⟨u2, eu⟩ : ∃ z, z = setI u1 66 v0 (50 : Int32) := ⟨_, rfl⟩
  rw [← eu] at hW
  replace h := h u2 eu
  clear eu
  refine lv_aload_n hx hb dX1_init_15 rfl (lv_at hl 0 rfl) ?_
  refine lv_iconst (v := (1 : Int32)) hx hb dX1_init_16 (by decide) ?_
  refine pf_2_3 F hW (x := (1 : Int32)) h.1 q_64 h.2.1 dX1_init_17 (fun H locs hW => ?_)
  replace h := h.2.2
  obtain ⟨u3, eu⟩ : ∃ z, z = setI u2 67 v0 (1 : Int32) := ⟨_, rfl⟩
  rw [← eu] at hW
  replace h := h u3 eu
  clear eu
  refine lv_aload_n hx hb dX1_init_20 rfl (lv_at hl 0 rfl) ?_
  refine lv_iload_n hx hb dX1_init_21 rfl (lv_at hl 1 rfl) ?_
  refine pf_2_0 F hW hnm (x := v1) h.1 q_65 dX1_init_22 (fun H locs hW => ?_)
  replace h := h.2
  obtain ⟨u4, eu⟩ : ∃ z, z = setI u3 64 v0 v1 := ⟨_, rfl⟩
  rw [← eu] at hW
  replace h := h u4 eu
  clear eu
  exact retV F hr hW h dX1_init_25
set_option maxHeartbeats 4000000 in
set_option maxRecDepth 100000 in
theorem t_X3_init_28 {p : Program} {l : Launch} {e : Env} {s : State} {m : MethodId} {below : List Frame} {meth : Method} {c : Code} {G : Ctx} (v0 : Nat) (MC MS : Nat) (F : Fx p l s m ([.ref v0]).toArray meth c cX3_init 2 RX3 G) (hr : meth.sig.returnType = none) (hnm : meth.name = "<init>") (K : Mem → Prop) : ∀ (n : Nat), ∀ (v1 : Int32) (mc ms : Nat) (u : Mem) (H : Heap) (locs : List Loc) (cells slots : Nat) (ls : Array Slot), w_X3_init_28 G v0 K n v1 mc ms u → Wd G u s H locs → lv_has ls 2 [(0, .ref v0), (1, .int v1)] → cells + mc = MC → slots + ms = MS → W p l e { frames := 1, cells := MC, slots := MS, locals := 30 } s m ([.ref v0]).toArray below meth c H locs cells slots (MQ below (va_Qv K (fun u' t => Wp G u' t.heap) (Ab G)) ([.ref v0]).toArray s MC MS (Ab G)) (F0 m 28 ls []) := by
  have hx := F.1.1
  have hb := F.1.2.1
  intro n
  induction n with
  | zero =>
    intro v1 mc ms u H locs cells slots ls h hW hl hbc hbs
    exact h.elim
  | succ n hJ28 =>
    intro v1 mc ms u H locs cells slots ls h hW hl hbc hbs
    have h : b_X3_init_28 G v0 K (w_X3_init_28 G v0 K n) v1 mc ms u := h
    revert h
    generalize w_X3_init_28 G v0 K n = J28 at hJ28 ⊢
    intro h
    unfold b_X3_init_28 at h
    refine lv_iload_n hx hb dX3_init_28 rfl (lv_at hl 1 rfl) ?_
    refine lv_aload_n hx hb dX3_init_29 rfl (lv_at hl 0 rfl) ?_
    refine gf_4_3 F hW h.1 q_57 dX3_init_30 ?_
    replace h := h.2
    obtain ⟨r19, er⟩ : ∃ z, z = mR u 131 v0 := ⟨_, rfl⟩
    rw [← er]
    replace h := h r19 er
    clear er
    obtain ⟨a20, ea, h⟩ := h
    subst ea
    refine rLen_8 F hW h.1 dX3_init_33 ?_
    replace h := h.2
    refine lv_icmp_ge (tgt := 51) hx hb dX3_init_34 (by decide) (fun hc21 => ?_) (fun hc21 => ?_)
    · have h := h.1 hc21
      refine W.widen (k := MC) (n := MS) (Nat.le.intro hbc) (Nat.le.intro hbs) ?_
      exact retV F hr hW h dX3_init_51
    · have h := h.2 hc21
      refine lv_aload_n hx hb dX3_init_37 rfl (lv_at hl 0 rfl) ?_
      refine gf_4_3 F hW h.1 q_57 dX3_init_38 ?_
      replace h := h.2
      obtain ⟨r22, er⟩ : ∃ z, z = mR u 131 v0 := ⟨_, rfl⟩
      rw [← er]
      replace h := h r22 er
      clear er
      refine lv_iload_n hx hb dX3_init_41 rfl (lv_at hl 1 rfl) ?_
      refine lv_bipush (v := (7 : Int32)) hx hb dX3_init_42 (by decide) ?_
      obtain ⟨a23, ea, h⟩ := h
      subst ea
      refine rIast F hW h.1 h.2.1 dX3_init_44 (fun H locs hW => ?_)
      replace h := h.2.2
      obtain ⟨u24, eu⟩ : ∃ z, z = setA u a23 (v1.toNatClampNeg) (7 : Int32) := ⟨_, rfl⟩
      rw [← eu] at hW
      replace h := h u24 eu
      clear eu
      refine lv_iinc (v := (v1 + 1)) (lv' := [(1, .int (v1 + 1)), (0, .ref v0)]) hx hb dX3_init_45 hl (k := 1) rfl rfl (by decide) rfl (fun ls hl9 => ?_)
      replace hl := hl9
      clear hl9
      refine lv_goto (tgt := 28) hx hb dX3_init_48 (by decide) ?_
      exact hJ28 (v1 + 1) mc ms u24 _ _ _ _ _ h hW (lv_sub hl [1, 0] rfl) hbc hbs
set_option maxHeartbeats 4000000 in
set_option maxRecDepth 100000 in
theorem c_X3_init {l : Launch} (hst : l.stackTraces = false) (G : Ctx) (v0 : Nat) (MC MS : Nat) (u : Mem) (K : Mem → Prop) (h : w_X3_init G v0 MC MS u K) : CtV l yX3_init (.code yX3_init cX3_init 2 none) 1 30 MC MS G [.ref v0] u K := by
  refine entM (by first | decide | decide +kernel) hst (by first | decide | exact Nat.le_of_ble_eq_true rfl) (fun p e s m below meth c ls F hr hnm hW hl => ?_)
  have F : Fx p l s m ([.ref v0]).toArray meth c cX3_init 2 RX3 G := F
  have hnm : meth.name = "<init>" := hnm
  have hl : lv_has ls 2 [(0, .ref v0)] := hl
  have hx := F.1.1
  have hb := F.1.2.1
  have hbc : 0 + MC = MC := Nat.zero_add _
  have hbs : 0 + MS = MS := Nat.zero_add _
  unfold w_X3_init at h
  refine lv_aload_n hx hb dX3_init_0 rfl (lv_at hl 0 rfl) ?_
  refine W.objInit hx hb F.1.2.2.2.1 (F.1.2.2.2.2 _ q_53) (F.1.2.2.2.2 _ q_8) (F.1.2.2.2.2 _ q_9) rfl (by rw [F.1.2.2.1]; exact hl.1) rfl dX3_init_1 (Nat.le_of_ble_eq_true rfl) (Nat.le_of_ble_eq_true rfl) ?_
  refine W.eq (g2 := F0 m 4 ls []) rfl ?_
  refine lv_aload_n hx hb dX3_init_4 rfl (lv_at hl 0 rfl) ?_
  refine lv_iconst (v := (0 : Int32)) hx hb dX3_init_5 (by decide) ?_
  refine pf_4_0 F hW (x := (0 : Int32)) h.1 q_54 dX3_init_6 (fun H locs hW => ?_)
  replace h := h.2
  obtain ⟨u1, eu⟩ : ∃ z, z = setI u 128 v0 (0 : Int32) := ⟨_, rfl⟩
  rw [← eu] at hW
  replace h := h u1 eu
  clear eu
  refine lv_aload_n hx hb dX3_init_9 rfl (lv_at hl 0 rfl) ?_
  refine lv_iconst (v := (1 : Int32)) hx hb dX3_init_10 (by decide) ?_
  refine pf_4_1 F hW (x := (1 : Int32)) h.1 q_55 dX3_init_11 (fun H locs hW => ?_)
  replace h := h.2
  obtain ⟨u2, eu⟩ : ∃ z, z = setI u1 129 v0 (1 : Int32) := ⟨_, rfl⟩
  rw [← eu] at hW
  replace h := h u2 eu
  clear eu
  refine lv_aload_n hx hb dX3_init_14 rfl (lv_at hl 0 rfl) ?_
  refine lv_iconst (v := (0 : Int32)) hx hb dX3_init_15 (by decide) ?_
  refine pf_4_2 F hW (x := (0 : Int32)) h.1 q_56 h.2.1 dX3_init_16 (fun H locs hW => ?_)
  replace h := h.2.2
  obtain ⟨u3, eu⟩ : ∃ z, z = setI u2 130 v0 (0 : Int32) := ⟨_, rfl⟩
  rw [← eu] at hW
  replace h := h u3 eu
  clear eu
  refine lv_aload_n hx hb dX3_init_19 rfl (lv_at hl 0 rfl) ?_
  refine lv_iconst (v := (3 : Int32)) hx hb dX3_init_20 (by decide) ?_
  obtain ⟨h1, h2, h⟩ := h
  refine rNewI (N := 3) (R := ⟨1, MC, MS, 30⟩) F hW hbc hbs h1 h2 (by decide) dX3_init_21 (fun q4 H hq hW => ?_)
  replace h := h q4 hq
  replace hbc := bdg hbc h1
  replace hbs := bdg hbs h2
  clear h1 h2
  obtain ⟨u5, eu⟩ : ∃ z, z = mNew u3 q4 8 3 := ⟨_, rfl⟩
  rw [← eu] at hW
  replace h := h u5 eu
  clear eu
  refine pf_4_3 F hW hnm (x := (some q4)) h.1 q_57 dX3_init_23 (fun H locs hW => ?_)
  replace h := h.2
  obtain ⟨u6, eu⟩ : ∃ z, z = setR u5 131 v0 (some q4) := ⟨_, rfl⟩
  rw [← eu] at hW
  replace h := h u6 eu
  clear eu
  refine lv_iconst (v := (0 : Int32)) hx hb dX3_init_26 (by decide) ?_
  refine lv_istore_n (lv' := [(1, .int (0 : Int32)), (0, .ref v0)]) hx hb dX3_init_27 rfl hl (by decide) rfl (fun ls hl9 => ?_)
  replace hl := hl9
  clear hl9
  obtain ⟨n, h⟩ := h
  exact t_X3_init_28 v0 MC MS F hr hnm K n (0 : Int32) (MC - 1) (MS - 3) u6 _ _ _ _ _ h hW (lv_sub hl [1, 0] rfl) hbc hbs
set_option maxHeartbeats 4000000 in
set_option maxRecDepth 100000 in
theorem c_X4_init {l : Launch} (hst : l.stackTraces = false) (G : Ctx) (v0 : Nat) (v1 : Int32) (v2 : Int32) (v3 : Int32) (u : Mem) (K : Mem → Prop) (h : w_X4_init G v0 v1 v2 v3 u K) : CtV l yX4_init (.code yX4_init cX4_init 4 none) 1 30 0 0 G [.ref v0, .int v1, .int v2, .int v3] u K := by
  refine entM (by first | decide | decide +kernel) hst (by first | decide | exact Nat.le_of_ble_eq_true rfl) (fun p e s m below meth c ls F hr hnm hW hl => ?_)
  have F : Fx p l s m ([.ref v0, .int v1, .int v2, .int v3]).toArray meth c cX4_init 4 RX4 G := F
  have hnm : meth.name = "<init>" := hnm
  have hl : lv_has ls 4 [(0, .ref v0), (1, .int v1), (2, .int v2), (3, .int v3)] := hl
  have hx := F.1.1
  have hb := F.1.2.1
  unfold w_X4_init at h
  refine lv_aload_n hx hb dX4_init_0 rfl (lv_at hl 0 rfl) ?_
  refine W.objInit hx hb F.1.2.2.2.1 (F.1.2.2.2.2 _ q_100) (F.1.2.2.2.2 _ q_8) (F.1.2.2.2.2 _ q_9) rfl (by rw [F.1.2.2.1]; exact hl.1) rfl dX4_init_1 (Nat.le_of_ble_eq_true rfl) (Nat.le_of_ble_eq_true rfl) ?_
  refine W.eq (g2 := F0 m 4 ls []) rfl ?_
  refine lv_aload_n hx hb dX4_init_4 rfl (lv_at hl 0 rfl) ?_
  refine lv_iconst (v := (0 : Int32)) hx hb dX4_init_5 (by decide) ?_
  refine pf_5_3 F hW (x := (0 : Int32)) h.1 q_101 dX4_init_6 (fun H locs hW => ?_)
  replace h := h.2
  obtain ⟨u1, eu⟩ : ∃ z, z = setI u 163 v0 (0 : Int32) := ⟨_, rfl⟩
  rw [← eu] at hW
  replace h := h u1 eu
  clear eu
  refine lv_aload_n hx hb dX4_init_9 rfl (lv_at hl 0 rfl) ?_
  refine lv_null hx hb dX4_init_10 ?_
  refine pf_5_4 F hW (x := none) h.1 q_102 dX4_init_11 (fun H locs hW => ?_)
  replace h := h.2
  obtain ⟨u2, eu⟩ : ∃ z, z = setR u1 164 v0 none := ⟨_, rfl⟩
  rw [← eu] at hW
  replace h := h u2 eu
  clear eu
  refine lv_aload_n hx hb dX4_init_14 rfl (lv_at hl 0 rfl) ?_
  refine lv_iconst (v := (0 : Int32)) hx hb dX4_init_15 (by decide) ?_
  refine pf_5_5 F hW (x := (0 : Int32)) h.1 q_103 dX4_init_16 (fun H locs hW => ?_)
  replace h := h.2
  obtain ⟨u3, eu⟩ : ∃ z, z = setI u2 165 v0 (0 : Int32) := ⟨_, rfl⟩
  rw [← eu] at hW
  replace h := h u3 eu
  clear eu
  refine lv_aload_n hx hb dX4_init_19 rfl (lv_at hl 0 rfl) ?_
  refine lv_iconst (v := (0 : Int32)) hx hb dX4_init_20 (by decide) ?_
  refine pf_5_6 F hW (x := (0 : Int32)) h.1 q_104 h.2.1 dX4_init_21 (fun H locs hW => ?_)
  replace h := h.2.2
  obtain ⟨u4, eu⟩ : ∃ z, z = setI u3 166 v0 (0 : Int32) := ⟨_, rfl⟩
  rw [← eu] at hW
  replace h := h u4 eu
  clear eu
  refine lv_aload_n hx hb dX4_init_24 rfl (lv_at hl 0 rfl) ?_
  refine lv_iload_n hx hb dX4_init_25 rfl (lv_at hl 1 rfl) ?_
  refine pf_5_0 F hW hnm (x := v1) h.1 q_105 dX4_init_26 (fun H locs hW => ?_)
  replace h := h.2
  obtain ⟨u5, eu⟩ : ∃ z, z = setI u4 160 v0 v1 := ⟨_, rfl⟩
  rw [← eu] at hW
  replace h := h u5 eu
  clear eu
  refine lv_aload_n hx hb dX4_init_29 rfl (lv_at hl 0 rfl) ?_
  refine lv_iload_n hx hb dX4_init_30 rfl (lv_at hl 2 rfl) ?_
  refine pf_5_1 F hW hnm (x := v2) h.1 q_106 dX4_init_31 (fun H locs hW => ?_)
  replace h := h.2
  obtain ⟨u6, eu⟩ : ∃ z, z = setI u5 161 v0 v2 := ⟨_, rfl⟩
  rw [← eu] at hW
  replace h := h u6 eu
  clear eu
  refine lv_aload_n hx hb dX4_init_34 rfl (lv_at hl 0 rfl) ?_
  refine lv_iload_n hx hb dX4_init_35 rfl (lv_at hl 3 rfl) ?_
  refine pf_5_2 F hW hnm (x := v3) h.1 q_107 dX4_init_36 (fun H locs hW => ?_)
  replace h := h.2
  obtain ⟨u7, eu⟩ : ∃ z, z = setI u6 162 v0 v3 := ⟨_, rfl⟩
  rw [← eu] at hW
  replace h := h u7 eu
  clear eu
  exact retV F hr hW h dX4_init_39
end WK1
