section WKL
set_option maxHeartbeats 4000000 in
set_option maxRecDepth 100000 in
theorem t_L_law_750 {p : Program} {l : Launch} {e : Env} {s : State} {m : MethodId} {below : List Frame} {meth : Method} {c : Code} {G : Ctx} (F : Fx p l s m #[Value.ref (G.2.2 3)] meth c cL_law 17 RL G) (hr : meth.sig.returnType = ret) (hAb : ∀ q, Ab G q → s.heap.size ≤ q) (J139 : Nat → Nat → Nat → Nat → Nat → Nat → Nat → Int32 → Nat → Nat → Mem → Prop) (hJ139 : ∀ (v1 : Nat) (v2 : Nat) (v3 : Nat) (v4 : Nat) (v5 : Nat) (v6 : Nat) (v7 : Nat) (v8 : Int32) (mc ms : Nat) (u : Mem) (H : Heap) (locs : List Loc) (cells slots : Nat) (ls : Array Slot), J139 v1 v2 v3 v4 v5 v6 v7 v8 mc ms u → Wd G u s H locs → lv_has ls 17 [(0, .ref (G.2.2 3)), (1, .ref v1), (2, .ref v2), (3, .ref v3), (4, .ref v4), (5, .ref v5), (6, .ref v6), (7, .ref v7), (8, .int v8)] → cells + mc = 642681 → slots + ms = 7173425 → W p l e room_1 s m #[Value.ref (G.2.2 3)] below meth c H locs cells slots (lw_Z below #[Value.ref (G.2.2 3)] s) (F0 m 139 ls [])) : ∀ (v1 : Nat) (v2 : Nat) (v3 : Nat) (v4 : Nat) (v5 : Nat) (v6 : Nat) (v7 : Nat) (v8 : Int32) (v9 : Int32) (v11 : Int32) (mc ms : Nat) (u : Mem) (H : Heap) (locs : List Loc) (cells slots : Nat) (ls : Array Slot), w_L_law_750 G J139 v1 v2 v3 v4 v5 v6 v7 v8 v9 v11 mc ms u → Wd G u s H locs → lv_has ls 17 [(0, .ref (G.2.2 3)), (1, .ref v1), (2, .ref v2), (3, .ref v3), (4, .ref v4), (5, .ref v5), (6, .ref v6), (7, .ref v7), (8, .int v8), (9, .int v9), (11, .int v11)] → cells + mc = 642681 → slots + ms = 7173425 → W p l e room_1 s m #[Value.ref (G.2.2 3)] below meth c H locs cells slots (lw_Z below #[Value.ref (G.2.2 3)] s) (F0 m 750 ls []) := by
  have hx := F.1.1
  have hb := F.1.2.1
  intro v1 v2 v3 v4 v5 v6 v7 v8 v9 v11 mc ms u H locs cells slots ls h hW hl hbc hbs
  unfold w_L_law_750 at h
  refine lv_iload hx hb dL_law_750 (lv_at hl 10 rfl) ?_
  refine lv_if_eq (tgt := 776) hx hb dL_law_752 (by decide) (fun hc211 => ?_) (fun hc211 => ?_)
  · have h := h.1 hc211
    refine lv_iconst (v := (0 : Int32)) hx hb dL_law_776 (by decide) ?_
    exact h.elim
  · have h := h.2 hc211
    refine lv_aload_n hx hb dL_law_755 rfl (lv_at hl 1 rfl) ?_
    refine lv_iload hx hb dL_law_756 (lv_at hl 9 rfl) ?_
    refine lv_iconst (v := (3 : Int32)) hx hb dL_law_758 (by decide) ?_
    refine lv_ishr hx hb dL_law_759 ?_
    refine lv_aload_n hx hb dL_law_760 rfl (lv_at hl 3 rfl) ?_
    refine lv_aload hx hb dL_law_761 (lv_at hl 4 rfl) ?_
    refine lv_aload hx hb dL_law_763 (lv_at hl 5 rfl) ?_
    refine lv_aload hx hb dL_law_765 (lv_at hl 6 rfl) ?_
    refine lv_aload hx hb dL_law_767 (lv_at hl 7 rfl) ?_
    refine lv_aload_n hx hb dL_law_769 rfl (lv_at hl 2 rfl) ?_
    obtain ⟨c214, b215, h1, h2, h⟩ := h
    have hf1 := bdf hbc h1
    have hf2 := bdf hbs h2
    refine cI (runS (n := 8) (As := [.ref v1, .int (v9 >>> ((3 : Int32) &&& 31)), .ref v3, .ref v4, .ref v5, .ref v6, .ref v7, .ref v2]) (rest := []) F hW (c_L_isSo F.2.2.2 G v1 (v9 >>> ((3 : Int32) &&& 31)) v3 v4 v5 v6 v7 v2 c214 b215 u _ h) q_344 q_345 q_68 q_346 (by decide +kernel) ⟨Nat.le_of_ble_eq_true rfl, Nat.le_of_ble_eq_true rfl⟩ dL_law_770 rfl hl.1 (Nat.le_of_ble_eq_true rfl) ⟨hf1, hf2⟩) hW (fun r213 u212 h9 H locs hW => ?_)
    replace h := h9
    clear h9
    replace hbc := bdg hbc h1
    replace hbs := bdg hbs h2
    clear h1 h2 hf1 hf2
    refine lv_if_ne (tgt := 778) hx hb dL_law_773 (by decide) (fun hc216 => ?_) (fun hc216 => ?_)
    · have h := h.2 hc216
      refine lv_iinc (v := (v8 + 1)) (lv' := [(8, .int (v8 + 1)), (0, .ref (G.2.2 3)), (1, .ref v1), (2, .ref v2), (3, .ref v3), (4, .ref v4), (5, .ref v5), (6, .ref v6), (7, .ref v7), (9, .int v9), (11, .int v11)]) hx hb dL_law_778 hl (k := 8) rfl rfl (by decide) rfl (fun ls hl9 => ?_)
      replace hl := hl9
      clear hl9
      refine lv_goto (tgt := 139) hx hb dL_law_781 (by decide) ?_
      exact hJ139 v1 v2 v3 v4 v5 v6 v7 (v8 + 1) (mc - c214) (ms - b215) u212 _ _ _ _ _ h hW (lv_sub hl [1, 2, 3, 4, 5, 6, 7, 8, 0] rfl) hbc hbs
    · have h := h.1 hc216
      refine lv_iconst (v := (0 : Int32)) hx hb dL_law_776 (by decide) ?_
      exact h.elim
set_option maxHeartbeats 4000000 in
set_option maxRecDepth 100000 in
theorem t_L_law_420 {p : Program} {l : Launch} {e : Env} {s : State} {m : MethodId} {below : List Frame} {meth : Method} {c : Code} {G : Ctx} (F : Fx p l s m #[Value.ref (G.2.2 3)] meth c cL_law 17 RL G) (hr : meth.sig.returnType = ret) (hAb : ∀ q, Ab G q → s.heap.size ≤ q) (J139 : Nat → Nat → Nat → Nat → Nat → Nat → Nat → Int32 → Nat → Nat → Mem → Prop) (hJ139 : ∀ (v1 : Nat) (v2 : Nat) (v3 : Nat) (v4 : Nat) (v5 : Nat) (v6 : Nat) (v7 : Nat) (v8 : Int32) (mc ms : Nat) (u : Mem) (H : Heap) (locs : List Loc) (cells slots : Nat) (ls : Array Slot), J139 v1 v2 v3 v4 v5 v6 v7 v8 mc ms u → Wd G u s H locs → lv_has ls 17 [(0, .ref (G.2.2 3)), (1, .ref v1), (2, .ref v2), (3, .ref v3), (4, .ref v4), (5, .ref v5), (6, .ref v6), (7, .ref v7), (8, .int v8)] → cells + mc = 642681 → slots + ms = 7173425 → W p l e room_1 s m #[Value.ref (G.2.2 3)] below meth c H locs cells slots (lw_Z below #[Value.ref (G.2.2 3)] s) (F0 m 139 ls [])) : ∀ (v1 : Nat) (v2 : Nat) (v3 : Nat) (v4 : Nat) (v5 : Nat) (v6 : Nat) (v7 : Nat) (v8 : Int32) (v9 : Int32) (s0 : Int32) (mc ms : Nat) (u : Mem) (H : Heap) (locs : List Loc) (cells slots : Nat) (ls : Array Slot), w_L_law_420 G J139 v1 v2 v3 v4 v5 v6 v7 v8 v9 s0 mc ms u → Wd G u s H locs → lv_has ls 17 [(0, .ref (G.2.2 3)), (1, .ref v1), (2, .ref v2), (3, .ref v3), (4, .ref v4), (5, .ref v5), (6, .ref v6), (7, .ref v7), (8, .int v8), (9, .int v9)] → cells + mc = 642681 → slots + ms = 7173425 → W p l e room_1 s m #[Value.ref (G.2.2 3)] below meth c H locs cells slots (lw_Z below #[Value.ref (G.2.2 3)] s) (F0 m 420 ls [.int s0]) := by
  have hx := F.1.1
  have hb := F.1.2.1
  intro v1 v2 v3 v4 v5 v6 v7 v8 v9 s0 mc ms u H locs cells slots ls h hW hl hbc hbs
  unfold w_L_law_420 at h
  refine lv_istore (lv' := [(11, .int s0), (0, .ref (G.2.2 3)), (1, .ref v1), (2, .ref v2), (3, .ref v3), (4, .ref v4), (5, .ref v5), (6, .ref v6), (7, .ref v7), (8, .int v8), (9, .int v9)]) hx hb dL_law_420 hl (by decide) rfl (fun ls hl9 => ?_)
  replace hl := hl9
  clear hl9
  refine lv_goto (tgt := 750) hx hb dL_law_422 (by decide) ?_
  exact t_L_law_750 F hr hAb J139 hJ139 v1 v2 v3 v4 v5 v6 v7 v8 v9 s0 mc ms u _ _ _ _ _ h hW (lv_sub hl [1, 2, 3, 4, 5, 6, 7, 8, 9, 10, 0] rfl) hbc hbs
set_option maxHeartbeats 4000000 in
set_option maxRecDepth 100000 in
theorem t_L_law_400 {p : Program} {l : Launch} {e : Env} {s : State} {m : MethodId} {below : List Frame} {meth : Method} {c : Code} {G : Ctx} (F : Fx p l s m #[Value.ref (G.2.2 3)] meth c cL_law 17 RL G) (hr : meth.sig.returnType = ret) (hAb : ∀ q, Ab G q → s.heap.size ≤ q) (J139 : Nat → Nat → Nat → Nat → Nat → Nat → Nat → Int32 → Nat → Nat → Mem → Prop) (hJ139 : ∀ (v1 : Nat) (v2 : Nat) (v3 : Nat) (v4 : Nat) (v5 : Nat) (v6 : Nat) (v7 : Nat) (v8 : Int32) (mc ms : Nat) (u : Mem) (H : Heap) (locs : List Loc) (cells slots : Nat) (ls : Array Slot), J139 v1 v2 v3 v4 v5 v6 v7 v8 mc ms u → Wd G u s H locs → lv_has ls 17 [(0, .ref (G.2.2 3)), (1, .ref v1), (2, .ref v2), (3, .ref v3), (4, .ref v4), (5, .ref v5), (6, .ref v6), (7, .ref v7), (8, .int v8)] → cells + mc = 642681 → slots + ms = 7173425 → W p l e room_1 s m #[Value.ref (G.2.2 3)] below meth c H locs cells slots (lw_Z below #[Value.ref (G.2.2 3)] s) (F0 m 139 ls [])) : ∀ (v1 : Nat) (v2 : Nat) (v3 : Nat) (v4 : Nat) (v5 : Nat) (v6 : Nat) (v7 : Nat) (v8 : Int32) (v9 : Int32) (v12 : Int32) (v13 : Int32) (v14 : Int32) (s0 : Int32) (s1 : Int32) (s2 : Nat) (mc ms : Nat) (u : Mem) (H : Heap) (locs : List Loc) (cells slots : Nat) (ls : Array Slot), w_L_law_400 G J139 v1 v2 v3 v4 v5 v6 v7 v8 v9 v12 v13 v14 s0 s1 s2 mc ms u → Wd G u s H locs → lv_has ls 17 [(0, .ref (G.2.2 3)), (1, .ref v1), (2, .ref v2), (3, .ref v3), (4, .ref v4), (5, .ref v5), (6, .ref v6), (7, .ref v7), (8, .int v8), (9, .int v9), (12, .int v12), (13, .int v13), (14, .int v14)] → cells + mc = 642681 → slots + ms = 7173425 → W p l e room_1 s m #[Value.ref (G.2.2 3)] below meth c H locs cells slots (lw_Z below #[Value.ref (G.2.2 3)] s) (F0 m 400 ls [.int s0, .int s1, .ref s2]) := by
  have hx := F.1.1
  have hb := F.1.2.1
  intro v1 v2 v3 v4 v5 v6 v7 v8 v9 v12 v13 v14 s0 s1 s2 mc ms u H locs cells slots ls h hW hl hbc hbs
  unfold w_L_law_400 at h
  refine rIast F hW h.1 h.2.1 dL_law_400 (fun H locs hW => ?_)
  replace h := h.2.2
  obtain ⟨u217, eu⟩ : ∃ z, z = setA u s2 (s1.toNatClampNeg) s0 := ⟨_, rfl⟩
  rw [← eu] at hW
  replace h := h u217 eu
  clear eu
  refine lv_aload_n hx hb dL_law_401 rfl (lv_at hl 1 rfl) ?_
  refine lv_iconst (v := (0 : Int32)) hx hb dL_law_402 (by decide) ?_
  refine lv_iload hx hb dL_law_403 (lv_at hl 10 rfl) ?_
  refine lv_iload hx hb dL_law_405 (lv_at hl 11 rfl) ?_
  obtain ⟨c220, b221, h1, h2, h⟩ := h
  have hf1 := bdf hbc h1
  have hf2 := bdf hbs h2
  refine cI (runSW (n := 4) (As := [.ref v1, .int (0 : Int32), .int v12, .int v13]) (rest := []) F hW (c_L_calls F.2.2.2 G v1 (0 : Int32) v12 v13 c220 b221 u217 _ h) q_194 q_195 q_68 q_196 (by decide +kernel) ⟨Nat.le_of_ble_eq_true rfl, Nat.le_of_ble_eq_true rfl⟩ dL_law_407 rfl hl.1 (Nat.le_of_ble_eq_true rfl) ⟨hf1, hf2⟩) hW (fun r219 u218 h9 H locs hW => ?_)
  replace h := h9
  clear h9
  replace hbc := bdg hbc h1
  replace hbs := bdg hbs h2
  clear h1 h2 hf1 hf2
  refine lv_iload hx hb dL_law_410 (lv_at hl 12 rfl) ?_
  refine lv_icmp_ne (tgt := 419) hx hb dL_law_412 (by decide) (fun hc222 => ?_) (fun hc222 => ?_)
  · have h := h.2 hc222
    refine lv_iconst (v := (0 : Int32)) hx hb dL_law_419 (by decide) ?_
    exact t_L_law_420 F hr hAb J139 hJ139 v1 v2 v3 v4 v5 v6 v7 v8 v9 (0 : Int32) (mc - c220) (ms - b221) u218 _ _ _ _ _ h hW (lv_sub hl [0, 1, 2, 3, 4, 5, 6, 7, 8, 9] rfl) hbc hbs
  · have h := h.1 hc222
    refine lv_iconst (v := (1 : Int32)) hx hb dL_law_415 (by decide) ?_
    refine lv_goto (tgt := 420) hx hb dL_law_416 (by decide) ?_
    exact t_L_law_420 F hr hAb J139 hJ139 v1 v2 v3 v4 v5 v6 v7 v8 v9 (1 : Int32) (mc - c220) (ms - b221) u218 _ _ _ _ _ h hW (lv_sub hl [0, 1, 2, 3, 4, 5, 6, 7, 8, 9] rfl) hbc hbs
set_option maxHeartbeats 4000000 in
set_option maxRecDepth 100000 in
theorem t_L_law_375 {p : Program} {l : Launch} {e : Env} {s : State} {m : MethodId} {below : List Frame} {meth : Method} {c : Code} {G : Ctx} (F : Fx p l s m #[Value.ref (G.2.2 3)] meth c cL_law 17 RL G) (hr : meth.sig.returnType = ret) (hAb : ∀ q, Ab G q → s.heap.size ≤ q) (J139 : Nat → Nat → Nat → Nat → Nat → Nat → Nat → Int32 → Nat → Nat → Mem → Prop) (hJ139 : ∀ (v1 : Nat) (v2 : Nat) (v3 : Nat) (v4 : Nat) (v5 : Nat) (v6 : Nat) (v7 : Nat) (v8 : Int32) (mc ms : Nat) (u : Mem) (H : Heap) (locs : List Loc) (cells slots : Nat) (ls : Array Slot), J139 v1 v2 v3 v4 v5 v6 v7 v8 mc ms u → Wd G u s H locs → lv_has ls 17 [(0, .ref (G.2.2 3)), (1, .ref v1), (2, .ref v2), (3, .ref v3), (4, .ref v4), (5, .ref v5), (6, .ref v6), (7, .ref v7), (8, .int v8)] → cells + mc = 642681 → slots + ms = 7173425 → W p l e room_1 s m #[Value.ref (G.2.2 3)] below meth c H locs cells slots (lw_Z below #[Value.ref (G.2.2 3)] s) (F0 m 139 ls [])) : ∀ (v1 : Nat) (v2 : Nat) (v3 : Nat) (v4 : Nat) (v5 : Nat) (v6 : Nat) (v7 : Nat) (v8 : Int32) (v9 : Int32) (v12 : Int32) (v13 : Int32) (s0 : Int32) (mc ms : Nat) (u : Mem) (H : Heap) (locs : List Loc) (cells slots : Nat) (ls : Array Slot), w_L_law_375 G J139 v1 v2 v3 v4 v5 v6 v7 v8 v9 v12 v13 s0 mc ms u → Wd G u s H locs → lv_has ls 17 [(0, .ref (G.2.2 3)), (1, .ref v1), (2, .ref v2), (3, .ref v3), (4, .ref v4), (5, .ref v5), (6, .ref v6), (7, .ref v7), (8, .int v8), (9, .int v9), (12, .int v12), (13, .int v13)] → cells + mc = 642681 → slots + ms = 7173425 → W p l e room_1 s m #[Value.ref (G.2.2 3)] below meth c H locs cells slots (lw_Z below #[Value.ref (G.2.2 3)] s) (F0 m 375 ls [.int s0]) := by
  have hx := F.1.1
  have hb := F.1.2.1
  intro v1 v2 v3 v4 v5 v6 v7 v8 v9 v12 v13 s0 mc ms u H locs cells slots ls h hW hl hbc hbs
  unfold w_L_law_375 at h
  refine lv_istore (lv' := [(14, .int s0), (0, .ref (G.2.2 3)), (1, .ref v1), (2, .ref v2), (3, .ref v3), (4, .ref v4), (5, .ref v5), (6, .ref v6), (7, .ref v7), (8, .int v8), (9, .int v9), (12, .int v12), (13, .int v13)]) hx hb dL_law_375 hl (by decide) rfl (fun ls hl9 => ?_)
  replace hl := hl9
  clear hl9
  refine lv_aload hx hb dL_law_377 (lv_at hl 5 rfl) ?_
  refine lv_iconst (v := (3 : Int32)) hx hb dL_law_379 (by decide) ?_
  refine lv_iload hx hb dL_law_380 (lv_at hl 11 rfl) ?_
  refine lv_imul hx hb dL_law_382 ?_
  refine lv_iload hx hb dL_law_383 (lv_at hl 0 rfl) ?_
  refine lv_if_ge (tgt := 398) hx hb dL_law_385 (by decide) (fun hc223 => ?_) (fun hc223 => ?_)
  · have h := h.1 hc223
    refine lv_iload hx hb dL_law_398 (lv_at hl 12 rfl) ?_
    exact t_L_law_400 F hr hAb J139 hJ139 v1 v2 v3 v4 v5 v6 v7 v8 v9 v12 v13 s0 v13 ((3 : Int32) * v12) v4 mc ms u _ _ _ _ _ h hW (lv_sub hl [1, 2, 3, 4, 5, 6, 7, 8, 9, 10, 11, 12, 0] rfl) hbc hbs
  · have h := h.2 hc223
    refine lv_aload hx hb dL_law_388 (lv_at hl 5 rfl) ?_
    refine lv_iconst (v := (3 : Int32)) hx hb dL_law_390 (by decide) ?_
    refine lv_iload hx hb dL_law_391 (lv_at hl 11 rfl) ?_
    refine lv_imul hx hb dL_law_393 ?_
    refine rIald F hW h.1 h.2.1 dL_law_394 ?_
    replace h := h.2.2
    refine lv_goto (tgt := 400) hx hb dL_law_395 (by decide) ?_
    exact t_L_law_400 F hr hAb J139 hJ139 v1 v2 v3 v4 v5 v6 v7 v8 v9 v12 v13 s0 (mA u v4 ((3 : Int32) * v12).toNatClampNeg) ((3 : Int32) * v12) v4 mc ms u _ _ _ _ _ h hW (lv_sub hl [1, 2, 3, 4, 5, 6, 7, 8, 9, 10, 11, 12, 0] rfl) hbc hbs
set_option maxHeartbeats 4000000 in
set_option maxRecDepth 100000 in
theorem t_L_law_748 {p : Program} {l : Launch} {e : Env} {s : State} {m : MethodId} {below : List Frame} {meth : Method} {c : Code} {G : Ctx} (F : Fx p l s m #[Value.ref (G.2.2 3)] meth c cL_law 17 RL G) (hr : meth.sig.returnType = ret) (hAb : ∀ q, Ab G q → s.heap.size ≤ q) (J139 : Nat → Nat → Nat → Nat → Nat → Nat → Nat → Int32 → Nat → Nat → Mem → Prop) (hJ139 : ∀ (v1 : Nat) (v2 : Nat) (v3 : Nat) (v4 : Nat) (v5 : Nat) (v6 : Nat) (v7 : Nat) (v8 : Int32) (mc ms : Nat) (u : Mem) (H : Heap) (locs : List Loc) (cells slots : Nat) (ls : Array Slot), J139 v1 v2 v3 v4 v5 v6 v7 v8 mc ms u → Wd G u s H locs → lv_has ls 17 [(0, .ref (G.2.2 3)), (1, .ref v1), (2, .ref v2), (3, .ref v3), (4, .ref v4), (5, .ref v5), (6, .ref v6), (7, .ref v7), (8, .int v8)] → cells + mc = 642681 → slots + ms = 7173425 → W p l e room_1 s m #[Value.ref (G.2.2 3)] below meth c H locs cells slots (lw_Z below #[Value.ref (G.2.2 3)] s) (F0 m 139 ls [])) : ∀ (v1 : Nat) (v2 : Nat) (v3 : Nat) (v4 : Nat) (v5 : Nat) (v6 : Nat) (v7 : Nat) (v8 : Int32) (v9 : Int32) (s0 : Int32) (mc ms : Nat) (u : Mem) (H : Heap) (locs : List Loc) (cells slots : Nat) (ls : Array Slot), w_L_law_748 G J139 v1 v2 v3 v4 v5 v6 v7 v8 v9 s0 mc ms u → Wd G u s H locs → lv_has ls 17 [(0, .ref (G.2.2 3)), (1, .ref v1), (2, .ref v2), (3, .ref v3), (4, .ref v4), (5, .ref v5), (6, .ref v6), (7, .ref v7), (8, .int v8), (9, .int v9)] → cells + mc = 642681 → slots + ms = 7173425 → W p l e room_1 s m #[Value.ref (G.2.2 3)] below meth c H locs cells slots (lw_Z below #[Value.ref (G.2.2 3)] s) (F0 m 748 ls [.int s0]) := by
  have hx := F.1.1
  have hb := F.1.2.1
  intro v1 v2 v3 v4 v5 v6 v7 v8 v9 s0 mc ms u H locs cells slots ls h hW hl hbc hbs
  unfold w_L_law_748 at h
  refine lv_istore (lv' := [(11, .int s0), (0, .ref (G.2.2 3)), (1, .ref v1), (2, .ref v2), (3, .ref v3), (4, .ref v4), (5, .ref v5), (6, .ref v6), (7, .ref v7), (8, .int v8), (9, .int v9)]) hx hb dL_law_748 hl (by decide) rfl (fun ls hl9 => ?_)
  replace hl := hl9
  clear hl9
  exact t_L_law_750 F hr hAb J139 hJ139 v1 v2 v3 v4 v5 v6 v7 v8 v9 s0 mc ms u _ _ _ _ _ h hW (lv_sub hl [1, 2, 3, 4, 5, 6, 7, 8, 9, 10, 0] rfl) hbc hbs
set_option maxHeartbeats 4000000 in
set_option maxRecDepth 100000 in
theorem t_L_law_743 {p : Program} {l : Launch} {e : Env} {s : State} {m : MethodId} {below : List Frame} {meth : Method} {c : Code} {G : Ctx} (F : Fx p l s m #[Value.ref (G.2.2 3)] meth c cL_law 17 RL G) (hr : meth.sig.returnType = ret) (hAb : ∀ q, Ab G q → s.heap.size ≤ q) (J139 : Nat → Nat → Nat → Nat → Nat → Nat → Nat → Int32 → Nat → Nat → Mem → Prop) (hJ139 : ∀ (v1 : Nat) (v2 : Nat) (v3 : Nat) (v4 : Nat) (v5 : Nat) (v6 : Nat) (v7 : Nat) (v8 : Int32) (mc ms : Nat) (u : Mem) (H : Heap) (locs : List Loc) (cells slots : Nat) (ls : Array Slot), J139 v1 v2 v3 v4 v5 v6 v7 v8 mc ms u → Wd G u s H locs → lv_has ls 17 [(0, .ref (G.2.2 3)), (1, .ref v1), (2, .ref v2), (3, .ref v3), (4, .ref v4), (5, .ref v5), (6, .ref v6), (7, .ref v7), (8, .int v8)] → cells + mc = 642681 → slots + ms = 7173425 → W p l e room_1 s m #[Value.ref (G.2.2 3)] below meth c H locs cells slots (lw_Z below #[Value.ref (G.2.2 3)] s) (F0 m 139 ls [])) : ∀ (v1 : Nat) (v2 : Nat) (v3 : Nat) (v4 : Nat) (v5 : Nat) (v6 : Nat) (v7 : Nat) (v8 : Int32) (v9 : Int32) (mc ms : Nat) (u : Mem) (H : Heap) (locs : List Loc) (cells slots : Nat) (ls : Array Slot), w_L_law_743 G J139 v1 v2 v3 v4 v5 v6 v7 v8 v9 mc ms u → Wd G u s H locs → lv_has ls 17 [(0, .ref (G.2.2 3)), (1, .ref v1), (2, .ref v2), (3, .ref v3), (4, .ref v4), (5, .ref v5), (6, .ref v6), (7, .ref v7), (8, .int v8), (9, .int v9)] → cells + mc = 642681 → slots + ms = 7173425 → W p l e room_1 s m #[Value.ref (G.2.2 3)] below meth c H locs cells slots (lw_Z below #[Value.ref (G.2.2 3)] s) (F0 m 743 ls []) := by
  have hx := F.1.1
  have hb := F.1.2.1
  intro v1 v2 v3 v4 v5 v6 v7 v8 v9 mc ms u H locs cells slots ls h hW hl hbc hbs
  unfold w_L_law_743 at h
  refine lv_iconst (v := (1 : Int32)) hx hb dL_law_743 (by decide) ?_
  refine lv_goto (tgt := 748) hx hb dL_law_744 (by decide) ?_
  exact t_L_law_748 F hr hAb J139 hJ139 v1 v2 v3 v4 v5 v6 v7 v8 v9 (1 : Int32) mc ms u _ _ _ _ _ h hW (lv_sub hl [0, 1, 2, 3, 4, 5, 6, 7, 8, 9] rfl) hbc hbs
set_option maxHeartbeats 4000000 in
set_option maxRecDepth 100000 in
theorem t_L_law_701 {p : Program} {l : Launch} {e : Env} {s : State} {m : MethodId} {below : List Frame} {meth : Method} {c : Code} {G : Ctx} (F : Fx p l s m #[Value.ref (G.2.2 3)] meth c cL_law 17 RL G) (hr : meth.sig.returnType = ret) (hAb : ∀ q, Ab G q → s.heap.size ≤ q) (J139 : Nat → Nat → Nat → Nat → Nat → Nat → Nat → Int32 → Nat → Nat → Mem → Prop) (hJ139 : ∀ (v1 : Nat) (v2 : Nat) (v3 : Nat) (v4 : Nat) (v5 : Nat) (v6 : Nat) (v7 : Nat) (v8 : Int32) (mc ms : Nat) (u : Mem) (H : Heap) (locs : List Loc) (cells slots : Nat) (ls : Array Slot), J139 v1 v2 v3 v4 v5 v6 v7 v8 mc ms u → Wd G u s H locs → lv_has ls 17 [(0, .ref (G.2.2 3)), (1, .ref v1), (2, .ref v2), (3, .ref v3), (4, .ref v4), (5, .ref v5), (6, .ref v6), (7, .ref v7), (8, .int v8)] → cells + mc = 642681 → slots + ms = 7173425 → W p l e room_1 s m #[Value.ref (G.2.2 3)] below meth c H locs cells slots (lw_Z below #[Value.ref (G.2.2 3)] s) (F0 m 139 ls [])) : ∀ (v1 : Nat) (v2 : Nat) (v3 : Nat) (v4 : Nat) (v5 : Nat) (v6 : Nat) (v7 : Nat) (v8 : Int32) (v9 : Int32) (s0 : Int32) (s1 : Int32) (s2 : Int32) (mc ms : Nat) (u : Mem) (H : Heap) (locs : List Loc) (cells slots : Nat) (ls : Array Slot), w_L_law_701 G J139 v1 v2 v3 v4 v5 v6 v7 v8 v9 s0 s1 s2 mc ms u → Wd G u s H locs → lv_has ls 17 [(0, .ref (G.2.2 3)), (1, .ref v1), (2, .ref v2), (3, .ref v3), (4, .ref v4), (5, .ref v5), (6, .ref v6), (7, .ref v7), (8, .int v8), (9, .int v9)] → cells + mc = 642681 → slots + ms = 7173425 → W p l e room_1 s m #[Value.ref (G.2.2 3)] below meth c H locs cells slots (lw_Z below #[Value.ref (G.2.2 3)] s) (F0 m 701 ls [.int s0, .int s1, .int s2]) := by
  have hx := F.1.1
  have hb := F.1.2.1
  intro v1 v2 v3 v4 v5 v6 v7 v8 v9 s0 s1 s2 mc ms u H locs cells slots ls h hW hl hbc hbs
  unfold w_L_law_701 at h
  refine cI (runS (n := 2) (As := [.int s1, .int s0]) (rest := [.int s2]) F hW (c_L_low F.2.2.2 G s1 s0 u _ h) q_72 q_73 q_68 q_74 (by decide +kernel) ⟨Nat.le_of_ble_eq_true rfl, Nat.le_of_ble_eq_true rfl⟩ dL_law_701 rfl hl.1 (Nat.le_of_ble_eq_true rfl) ⟨Nat.le.intro hbc, Nat.le.intro hbs⟩) hW (fun r225 u224 h9 H locs hW => ?_)
  replace h := h9
  clear h9
  refine lv_iadd hx hb dL_law_704 ?_
  refine lv_istore (lv' := [(12, .int (s2 + r225)), (0, .ref (G.2.2 3)), (1, .ref v1), (2, .ref v2), (3, .ref v3), (4, .ref v4), (5, .ref v5), (6, .ref v6), (7, .ref v7), (8, .int v8), (9, .int v9)]) hx hb dL_law_705 hl (by decide) rfl (fun ls hl9 => ?_)
  replace hl := hl9
  clear hl9
  refine lv_aload_n hx hb dL_law_707 rfl (lv_at hl 3 rfl) ?_
  refine lv_iconst (v := (1 : Int32)) hx hb dL_law_708 (by decide) ?_
  refine rIald F hW h.1 h.2.1 dL_law_709 ?_
  replace h := h.2.2
  refine lv_iload hx hb dL_law_710 (lv_at hl 0 rfl) ?_
  refine lv_iadd hx hb dL_law_712 ?_
  refine lv_sipush (v := (1000 : Int32)) hx hb dL_law_713 (by decide) ?_
  refine lv_icmp_gt (tgt := 743) hx hb dL_law_716 (by decide) (fun hc226 => ?_) (fun hc226 => ?_)
  · have h := h.1 hc226
    exact t_L_law_743 F hr hAb J139 hJ139 v1 v2 v3 v4 v5 v6 v7 v8 v9 mc ms u224 _ _ _ _ _ h hW (lv_sub hl [1, 2, 3, 4, 5, 6, 7, 8, 9, 10] rfl) hbc hbs
  · have h := h.2 hc226
    refine lv_aload_n hx hb dL_law_719 rfl (lv_at hl 2 rfl) ?_
    refine lv_iload hx hb dL_law_720 (lv_at hl 0 rfl) ?_
    obtain ⟨c229, b230, h1, h2, h⟩ := h
    have hf1 := bdf hbc h1
    have hf2 := bdf hbs h2
    obtain ⟨hob, h⟩ := h
    refine cX (runX (n := 1) (As := [.int (s2 + r225)]) (rest := []) F hW (c_X5_pass F.2.2.2 G v1 (s2 + r225) c229 b230 u224 _ _ h) hob (ci := 6) rfl q_260 q_261 q_262 q_2 q_263 rfl (by decide +kernel) ⟨Nat.le_of_ble_eq_true rfl, Nat.le_of_ble_eq_true rfl⟩ dL_law_722 rfl hl.1 (Nat.le_of_ble_eq_true rfl) ⟨hf1, hf2⟩) hW (fun r228 u227 h9 H locs hW => ?_) (fun E u227 h9 H locs hW => ?_)
    · replace h := h9
      clear h9
      replace hbc := bdg hbc h1
      replace hbs := bdg hbs h2
      clear h1 h2 hf1 hf2
      refine lv_iload hx hb dL_law_725 (lv_at hl 0 rfl) ?_
      refine lv_aload_n hx hb dL_law_727 rfl (lv_at hl 4 rfl) ?_
      refine lv_aload hx hb dL_law_728 (lv_at hl 5 rfl) ?_
      refine lv_aload hx hb dL_law_730 (lv_at hl 6 rfl) ?_
      refine lv_aload hx hb dL_law_732 (lv_at hl 7 rfl) ?_
      refine lv_aload hx hb dL_law_734 (lv_at hl 8 rfl) ?_
      refine lv_aload_n hx hb dL_law_736 rfl (lv_at hl 3 rfl) ?_
      refine cI (runS (n := 7) (As := [.int (s2 + r225), .ref v3, .ref v4, .ref v5, .ref v6, .ref v7, .ref v2]) (rest := [.int r228]) F hW (c_L_minutes F.2.2.2 G (s2 + r225) v3 v4 v5 v6 v7 v2 u227 _ h) q_326 q_327 q_68 q_328 (by decide +kernel) ⟨Nat.le_of_ble_eq_true rfl, Nat.le_of_ble_eq_true rfl⟩ dL_law_737 rfl hl.1 (Nat.le_of_ble_eq_true rfl) ⟨Nat.le.intro hbc, Nat.le.intro hbs⟩) hW (fun r232 u231 h9 H locs hW => ?_)
      replace h := h9
      clear h9
      refine lv_icmp_ne (tgt := 747) hx hb dL_law_740 (by decide) (fun hc233 => ?_) (fun hc233 => ?_)
      · have h := h.2 hc233
        refine lv_iconst (v := (0 : Int32)) hx hb dL_law_747 (by decide) ?_
        exact t_L_law_748 F hr hAb J139 hJ139 v1 v2 v3 v4 v5 v6 v7 v8 v9 (0 : Int32) (mc - c229) (ms - b230) u231 _ _ _ _ _ h hW (lv_sub hl [1, 2, 3, 4, 5, 6, 7, 8, 9, 10] rfl) hbc hbs
      · have h := h.1 hc233
        exact t_L_law_743 F hr hAb J139 hJ139 v1 v2 v3 v4 v5 v6 v7 v8 v9 (mc - c229) (ms - b230) u231 _ _ _ _ _ h hW (lv_sub hl [1, 2, 3, 4, 5, 6, 7, 8, 9, 10] rfl) hbc hbs
    · exact h9.elim
set_option maxHeartbeats 4000000 in
set_option maxRecDepth 100000 in
theorem t_L_law_678 {p : Program} {l : Launch} {e : Env} {s : State} {m : MethodId} {below : List Frame} {meth : Method} {c : Code} {G : Ctx} (F : Fx p l s m #[Value.ref (G.2.2 3)] meth c cL_law 17 RL G) (hr : meth.sig.returnType = ret) (hAb : ∀ q, Ab G q → s.heap.size ≤ q) (J139 : Nat → Nat → Nat → Nat → Nat → Nat → Nat → Int32 → Nat → Nat → Mem → Prop) (hJ139 : ∀ (v1 : Nat) (v2 : Nat) (v3 : Nat) (v4 : Nat) (v5 : Nat) (v6 : Nat) (v7 : Nat) (v8 : Int32) (mc ms : Nat) (u : Mem) (H : Heap) (locs : List Loc) (cells slots : Nat) (ls : Array Slot), J139 v1 v2 v3 v4 v5 v6 v7 v8 mc ms u → Wd G u s H locs → lv_has ls 17 [(0, .ref (G.2.2 3)), (1, .ref v1), (2, .ref v2), (3, .ref v3), (4, .ref v4), (5, .ref v5), (6, .ref v6), (7, .ref v7), (8, .int v8)] → cells + mc = 642681 → slots + ms = 7173425 → W p l e room_1 s m #[Value.ref (G.2.2 3)] below meth c H locs cells slots (lw_Z below #[Value.ref (G.2.2 3)] s) (F0 m 139 ls [])) : ∀ (v1 : Nat) (v2 : Nat) (v3 : Nat) (v4 : Nat) (v5 : Nat) (v6 : Nat) (v7 : Nat) (v8 : Int32) (v9 : Int32) (mc ms : Nat) (u : Mem) (H : Heap) (locs : List Loc) (cells slots : Nat) (ls : Array Slot), w_L_law_678 G J139 v1 v2 v3 v4 v5 v6 v7 v8 v9 mc ms u → Wd G u s H locs → lv_has ls 17 [(0, .ref (G.2.2 3)), (1, .ref v1), (2, .ref v2), (3, .ref v3), (4, .ref v4), (5, .ref v5), (6, .ref v6), (7, .ref v7), (8, .int v8), (9, .int v9)] → cells + mc = 642681 → slots + ms = 7173425 → W p l e room_1 s m #[Value.ref (G.2.2 3)] below meth c H locs cells slots (lw_Z below #[Value.ref (G.2.2 3)] s) (F0 m 678 ls []) := by
  have hx := F.1.1
  have hb := F.1.2.1
  intro v1 v2 v3 v4 v5 v6 v7 v8 v9 mc ms u H locs cells slots ls h hW hl hbc hbs
  unfold w_L_law_678 at h
  refine lv_iconst (v := (1 : Int32)) hx hb dL_law_678 (by decide) ?_
  refine lv_iload hx hb dL_law_679 (lv_at hl 9 rfl) ?_
  refine lv_iconst (v := (5 : Int32)) hx hb dL_law_681 (by decide) ?_
  refine lv_ishr hx hb dL_law_682 ?_
  refine lv_iload hx hb dL_law_683 (lv_at hl 9 rfl) ?_
  refine lv_bipush (v := (13 : Int32)) hx hb dL_law_685 (by decide) ?_
  refine lv_ishr hx hb dL_law_687 ?_
  refine lv_iconst (v := (4 : Int32)) hx hb dL_law_688 (by decide) ?_
  refine cI (runS (n := 2) (As := [.int (v9 >>> ((13 : Int32) &&& 31)), .int (4 : Int32)]) (rest := [.int (v9 >>> ((5 : Int32) &&& 31)), .int (1 : Int32)]) F hW (c_L_low F.2.2.2 G (v9 >>> ((13 : Int32) &&& 31)) (4 : Int32) u _ h) q_72 q_73 q_68 q_74 (by decide +kernel) ⟨Nat.le_of_ble_eq_true rfl, Nat.le_of_ble_eq_true rfl⟩ dL_law_689 rfl hl.1 (Nat.le_of_ble_eq_true rfl) ⟨Nat.le.intro hbc, Nat.le.intro hbs⟩) hW (fun r235 u234 h9 H locs hW => ?_)
  replace h := h9
  clear h9
  refine lv_if_ne (tgt := 700) hx hb dL_law_692 (by decide) (fun hc236 => ?_) (fun hc236 => ?_)
  · have h := h.2 hc236
    refine lv_iconst (v := (3 : Int32)) hx hb dL_law_700 (by decide) ?_
    exact t_L_law_701 F hr hAb J139 hJ139 v1 v2 v3 v4 v5 v6 v7 v8 v9 (3 : Int32) (v9 >>> ((5 : Int32) &&& 31)) (1 : Int32) mc ms u234 _ _ _ _ _ h hW (lv_sub hl [0, 1, 2, 3, 4, 5, 6, 7, 8, 9] rfl) hbc hbs
  · have h := h.1 hc236
    refine lv_bipush (v := (60 : Int32)) hx hb dL_law_695 (by decide) ?_
    refine lv_goto (tgt := 701) hx hb dL_law_697 (by decide) ?_
    exact t_L_law_701 F hr hAb J139 hJ139 v1 v2 v3 v4 v5 v6 v7 v8 v9 (60 : Int32) (v9 >>> ((5 : Int32) &&& 31)) (1 : Int32) mc ms u234 _ _ _ _ _ h hW (lv_sub hl [0, 1, 2, 3, 4, 5, 6, 7, 8, 9] rfl) hbc hbs
set_option maxHeartbeats 4000000 in
set_option maxRecDepth 100000 in
theorem t_L_law_673 {p : Program} {l : Launch} {e : Env} {s : State} {m : MethodId} {below : List Frame} {meth : Method} {c : Code} {G : Ctx} (F : Fx p l s m #[Value.ref (G.2.2 3)] meth c cL_law 17 RL G) (hr : meth.sig.returnType = ret) (hAb : ∀ q, Ab G q → s.heap.size ≤ q) (J139 : Nat → Nat → Nat → Nat → Nat → Nat → Nat → Int32 → Nat → Nat → Mem → Prop) (hJ139 : ∀ (v1 : Nat) (v2 : Nat) (v3 : Nat) (v4 : Nat) (v5 : Nat) (v6 : Nat) (v7 : Nat) (v8 : Int32) (mc ms : Nat) (u : Mem) (H : Heap) (locs : List Loc) (cells slots : Nat) (ls : Array Slot), J139 v1 v2 v3 v4 v5 v6 v7 v8 mc ms u → Wd G u s H locs → lv_has ls 17 [(0, .ref (G.2.2 3)), (1, .ref v1), (2, .ref v2), (3, .ref v3), (4, .ref v4), (5, .ref v5), (6, .ref v6), (7, .ref v7), (8, .int v8)] → cells + mc = 642681 → slots + ms = 7173425 → W p l e room_1 s m #[Value.ref (G.2.2 3)] below meth c H locs cells slots (lw_Z below #[Value.ref (G.2.2 3)] s) (F0 m 139 ls [])) : ∀ (v1 : Nat) (v2 : Nat) (v3 : Nat) (v4 : Nat) (v5 : Nat) (v6 : Nat) (v7 : Nat) (v8 : Int32) (v9 : Int32) (s0 : Int32) (mc ms : Nat) (u : Mem) (H : Heap) (locs : List Loc) (cells slots : Nat) (ls : Array Slot), w_L_law_673 G J139 v1 v2 v3 v4 v5 v6 v7 v8 v9 s0 mc ms u → Wd G u s H locs → lv_has ls 17 [(0, .ref (G.2.2 3)), (1, .ref v1), (2, .ref v2), (3, .ref v3), (4, .ref v4), (5, .ref v5), (6, .ref v6), (7, .ref v7), (8, .int v8), (9, .int v9)] → cells + mc = 642681 → slots + ms = 7173425 → W p l e room_1 s m #[Value.ref (G.2.2 3)] below meth c H locs cells slots (lw_Z below #[Value.ref (G.2.2 3)] s) (F0 m 673 ls [.int s0]) := by
  have hx := F.1.1
  have hb := F.1.2.1
  intro v1 v2 v3 v4 v5 v6 v7 v8 v9 s0 mc ms u H locs cells slots ls h hW hl hbc hbs
  unfold w_L_law_673 at h
  refine lv_istore (lv' := [(11, .int s0), (0, .ref (G.2.2 3)), (1, .ref v1), (2, .ref v2), (3, .ref v3), (4, .ref v4), (5, .ref v5), (6, .ref v6), (7, .ref v7), (8, .int v8), (9, .int v9)]) hx hb dL_law_673 hl (by decide) rfl (fun ls hl9 => ?_)
  replace hl := hl9
  clear hl9
  refine lv_goto (tgt := 750) hx hb dL_law_675 (by decide) ?_
  exact t_L_law_750 F hr hAb J139 hJ139 v1 v2 v3 v4 v5 v6 v7 v8 v9 s0 mc ms u _ _ _ _ _ h hW (lv_sub hl [1, 2, 3, 4, 5, 6, 7, 8, 9, 10, 0] rfl) hbc hbs
set_option maxHeartbeats 4000000 in
set_option maxRecDepth 100000 in
theorem t_L_law_665 {p : Program} {l : Launch} {e : Env} {s : State} {m : MethodId} {below : List Frame} {meth : Method} {c : Code} {G : Ctx} (F : Fx p l s m #[Value.ref (G.2.2 3)] meth c cL_law 17 RL G) (hr : meth.sig.returnType = ret) (hAb : ∀ q, Ab G q → s.heap.size ≤ q) (J139 : Nat → Nat → Nat → Nat → Nat → Nat → Nat → Int32 → Nat → Nat → Mem → Prop) (hJ139 : ∀ (v1 : Nat) (v2 : Nat) (v3 : Nat) (v4 : Nat) (v5 : Nat) (v6 : Nat) (v7 : Nat) (v8 : Int32) (mc ms : Nat) (u : Mem) (H : Heap) (locs : List Loc) (cells slots : Nat) (ls : Array Slot), J139 v1 v2 v3 v4 v5 v6 v7 v8 mc ms u → Wd G u s H locs → lv_has ls 17 [(0, .ref (G.2.2 3)), (1, .ref v1), (2, .ref v2), (3, .ref v3), (4, .ref v4), (5, .ref v5), (6, .ref v6), (7, .ref v7), (8, .int v8)] → cells + mc = 642681 → slots + ms = 7173425 → W p l e room_1 s m #[Value.ref (G.2.2 3)] below meth c H locs cells slots (lw_Z below #[Value.ref (G.2.2 3)] s) (F0 m 139 ls [])) : ∀ (v1 : Nat) (v2 : Nat) (v3 : Nat) (v4 : Nat) (v5 : Nat) (v6 : Nat) (v7 : Nat) (v8 : Int32) (v9 : Int32) (s0 : Int32) (s1 : Int32) (mc ms : Nat) (u : Mem) (H : Heap) (locs : List Loc) (cells slots : Nat) (ls : Array Slot), w_L_law_665 G J139 v1 v2 v3 v4 v5 v6 v7 v8 v9 s0 s1 mc ms u → Wd G u s H locs → lv_has ls 17 [(0, .ref (G.2.2 3)), (1, .ref v1), (2, .ref v2), (3, .ref v3), (4, .ref v4), (5, .ref v5), (6, .ref v6), (7, .ref v7), (8, .int v8), (9, .int v9)] → cells + mc = 642681 → slots + ms = 7173425 → W p l e room_1 s m #[Value.ref (G.2.2 3)] below meth c H locs cells slots (lw_Z below #[Value.ref (G.2.2 3)] s) (F0 m 665 ls [.int s0, .int s1]) := by
  have hx := F.1.1
  have hb := F.1.2.1
  intro v1 v2 v3 v4 v5 v6 v7 v8 v9 s0 s1 mc ms u H locs cells slots ls h hW hl hbc hbs
  unfold w_L_law_665 at h
  refine lv_icmp_ne (tgt := 672) hx hb dL_law_665 (by decide) (fun hc237 => ?_) (fun hc237 => ?_)
  · have h := h.2 hc237
    refine lv_iconst (v := (0 : Int32)) hx hb dL_law_672 (by decide) ?_
    exact t_L_law_673 F hr hAb J139 hJ139 v1 v2 v3 v4 v5 v6 v7 v8 v9 (0 : Int32) mc ms u _ _ _ _ _ h hW (lv_sub hl [0, 1, 2, 3, 4, 5, 6, 7, 8, 9] rfl) hbc hbs
  · have h := h.1 hc237
    refine lv_iconst (v := (1 : Int32)) hx hb dL_law_668 (by decide) ?_
    refine lv_goto (tgt := 673) hx hb dL_law_669 (by decide) ?_
    exact t_L_law_673 F hr hAb J139 hJ139 v1 v2 v3 v4 v5 v6 v7 v8 v9 (1 : Int32) mc ms u _ _ _ _ _ h hW (lv_sub hl [0, 1, 2, 3, 4, 5, 6, 7, 8, 9] rfl) hbc hbs
set_option maxHeartbeats 4000000 in
set_option maxRecDepth 100000 in
theorem t_L_law_640 {p : Program} {l : Launch} {e : Env} {s : State} {m : MethodId} {below : List Frame} {meth : Method} {c : Code} {G : Ctx} (F : Fx p l s m #[Value.ref (G.2.2 3)] meth c cL_law 17 RL G) (hr : meth.sig.returnType = ret) (hAb : ∀ q, Ab G q → s.heap.size ≤ q) (J139 : Nat → Nat → Nat → Nat → Nat → Nat → Nat → Int32 → Nat → Nat → Mem → Prop) (hJ139 : ∀ (v1 : Nat) (v2 : Nat) (v3 : Nat) (v4 : Nat) (v5 : Nat) (v6 : Nat) (v7 : Nat) (v8 : Int32) (mc ms : Nat) (u : Mem) (H : Heap) (locs : List Loc) (cells slots : Nat) (ls : Array Slot), J139 v1 v2 v3 v4 v5 v6 v7 v8 mc ms u → Wd G u s H locs → lv_has ls 17 [(0, .ref (G.2.2 3)), (1, .ref v1), (2, .ref v2), (3, .ref v3), (4, .ref v4), (5, .ref v5), (6, .ref v6), (7, .ref v7), (8, .int v8)] → cells + mc = 642681 → slots + ms = 7173425 → W p l e room_1 s m #[Value.ref (G.2.2 3)] below meth c H locs cells slots (lw_Z below #[Value.ref (G.2.2 3)] s) (F0 m 139 ls [])) : ∀ (v1 : Nat) (v2 : Nat) (v3 : Nat) (v4 : Nat) (v5 : Nat) (v6 : Nat) (v7 : Nat) (v8 : Int32) (v9 : Int32) (v12 : Int32) (v13 : Int32) (v14 : Int32) (v15 : Int32) (s0 : Int32) (s1 : Int32) (s2 : Nat) (mc ms : Nat) (u : Mem) (H : Heap) (locs : List Loc) (cells slots : Nat) (ls : Array Slot), w_L_law_640 G J139 v1 v2 v3 v4 v5 v6 v7 v8 v9 v12 v13 v14 v15 s0 s1 s2 mc ms u → Wd G u s H locs → lv_has ls 17 [(0, .ref (G.2.2 3)), (1, .ref v1), (2, .ref v2), (3, .ref v3), (4, .ref v4), (5, .ref v5), (6, .ref v6), (7, .ref v7), (8, .int v8), (9, .int v9), (12, .int v12), (13, .int v13), (14, .int v14), (15, .int v15)] → cells + mc = 642681 → slots + ms = 7173425 → W p l e room_1 s m #[Value.ref (G.2.2 3)] below meth c H locs cells slots (lw_Z below #[Value.ref (G.2.2 3)] s) (F0 m 640 ls [.int s0, .int s1, .ref s2]) := by
  have hx := F.1.1
  have hb := F.1.2.1
  intro v1 v2 v3 v4 v5 v6 v7 v8 v9 v12 v13 v14 v15 s0 s1 s2 mc ms u H locs cells slots ls h hW hl hbc hbs
  unfold w_L_law_640 at h
  refine rIast F hW h.1 h.2.1 dL_law_640 (fun H locs hW => ?_)
  replace h := h.2.2
  obtain ⟨u238, eu⟩ : ∃ z, z = setA u s2 (s1.toNatClampNeg) s0 := ⟨_, rfl⟩
  rw [← eu] at hW
  replace h := h u238 eu
  clear eu
  refine lv_aload_n hx hb dL_law_641 rfl (lv_at hl 1 rfl) ?_
  refine lv_iconst (v := (2 : Int32)) hx hb dL_law_642 (by decide) ?_
  refine lv_iload hx hb dL_law_643 (lv_at hl 10 rfl) ?_
  refine lv_iload hx hb dL_law_645 (lv_at hl 11 rfl) ?_
  obtain ⟨c241, b242, h1, h2, h⟩ := h
  have hf1 := bdf hbc h1
  have hf2 := bdf hbs h2
  refine cI (runSW (n := 4) (As := [.ref v1, .int (2 : Int32), .int v12, .int v13]) (rest := []) F hW (c_L_calls F.2.2.2 G v1 (2 : Int32) v12 v13 c241 b242 u238 _ h) q_194 q_195 q_68 q_196 (by decide +kernel) ⟨Nat.le_of_ble_eq_true rfl, Nat.le_of_ble_eq_true rfl⟩ dL_law_647 rfl hl.1 (Nat.le_of_ble_eq_true rfl) ⟨hf1, hf2⟩) hW (fun r240 u239 h9 H locs hW => ?_)
  replace h := h9
  clear h9
  replace hbc := bdg hbc h1
  replace hbs := bdg hbs h2
  clear h1 h2 hf1 hf2
  refine lv_iload hx hb dL_law_650 (lv_at hl 12 rfl) ?_
  refine lv_if_eq (tgt := 663) hx hb dL_law_652 (by decide) (fun hc243 => ?_) (fun hc243 => ?_)
  · have h := h.1 hc243
    refine lv_bipush (v := (-3 : Int32)) hx hb dL_law_663 (by decide) ?_
    exact t_L_law_665 F hr hAb J139 hJ139 v1 v2 v3 v4 v5 v6 v7 v8 v9 (-3 : Int32) r240 (mc - c241) (ms - b242) u239 _ _ _ _ _ h hW (lv_sub hl [0, 1, 2, 3, 4, 5, 6, 7, 8, 9] rfl) hbc hbs
  · have h := h.2 hc243
    refine lv_aload hx hb dL_law_655 (lv_at hl 4 rfl) ?_
    refine lv_iload hx hb dL_law_657 (lv_at hl 13 rfl) ?_
    refine rIald F hW h.1 h.2.1 dL_law_659 ?_
    replace h := h.2.2
    refine lv_goto (tgt := 665) hx hb dL_law_660 (by decide) ?_
    exact t_L_law_665 F hr hAb J139 hJ139 v1 v2 v3 v4 v5 v6 v7 v8 v9 (mA u239 v4 v15.toNatClampNeg) r240 (mc - c241) (ms - b242) u239 _ _ _ _ _ h hW (lv_sub hl [0, 1, 2, 3, 4, 5, 6, 7, 8, 9] rfl) hbc hbs
set_option maxHeartbeats 4000000 in
set_option maxRecDepth 100000 in
theorem t_L_law_611 {p : Program} {l : Launch} {e : Env} {s : State} {m : MethodId} {below : List Frame} {meth : Method} {c : Code} {G : Ctx} (F : Fx p l s m #[Value.ref (G.2.2 3)] meth c cL_law 17 RL G) (hr : meth.sig.returnType = ret) (hAb : ∀ q, Ab G q → s.heap.size ≤ q) (J139 : Nat → Nat → Nat → Nat → Nat → Nat → Nat → Int32 → Nat → Nat → Mem → Prop) (hJ139 : ∀ (v1 : Nat) (v2 : Nat) (v3 : Nat) (v4 : Nat) (v5 : Nat) (v6 : Nat) (v7 : Nat) (v8 : Int32) (mc ms : Nat) (u : Mem) (H : Heap) (locs : List Loc) (cells slots : Nat) (ls : Array Slot), J139 v1 v2 v3 v4 v5 v6 v7 v8 mc ms u → Wd G u s H locs → lv_has ls 17 [(0, .ref (G.2.2 3)), (1, .ref v1), (2, .ref v2), (3, .ref v3), (4, .ref v4), (5, .ref v5), (6, .ref v6), (7, .ref v7), (8, .int v8)] → cells + mc = 642681 → slots + ms = 7173425 → W p l e room_1 s m #[Value.ref (G.2.2 3)] below meth c H locs cells slots (lw_Z below #[Value.ref (G.2.2 3)] s) (F0 m 139 ls [])) : ∀ (v1 : Nat) (v2 : Nat) (v3 : Nat) (v4 : Nat) (v5 : Nat) (v6 : Nat) (v7 : Nat) (v8 : Int32) (v9 : Int32) (v12 : Int32) (v13 : Int32) (v14 : Int32) (v15 : Int32) (s0 : Int32) (s1 : Int32) (s2 : Nat) (mc ms : Nat) (u : Mem) (H : Heap) (locs : List Loc) (cells slots : Nat) (ls : Array Slot), w_L_law_611 G J139 v1 v2 v3 v4 v5 v6 v7 v8 v9 v12 v13 v14 v15 s0 s1 s2 mc ms u → Wd G u s H locs → lv_has ls 17 [(0, .ref (G.2.2 3)), (1, .ref v1), (2, .ref v2), (3, .ref v3), (4, .ref v4), (5, .ref v5), (6, .ref v6), (7, .ref v7), (8, .int v8), (9, .int v9), (12, .int v12), (13, .int v13), (14, .int v14), (15, .int v15)] → cells + mc = 642681 → slots + ms = 7173425 → W p l e room_1 s m #[Value.ref (G.2.2 3)] below meth c H locs cells slots (lw_Z below #[Value.ref (G.2.2 3)] s) (F0 m 611 ls [.int s0, .int s1, .ref s2]) := by
  have hx := F.1.1
  have hb := F.1.2.1
  intro v1 v2 v3 v4 v5 v6 v7 v8 v9 v12 v13 v14 v15 s0 s1 s2 mc ms u H locs cells slots ls h hW hl hbc hbs
  unfold w_L_law_611 at h
  refine rIast F hW h.1 h.2.1 dL_law_611 (fun H locs hW => ?_)
  replace h := h.2.2
  obtain ⟨u244, eu⟩ : ∃ z, z = setA u s2 (s1.toNatClampNeg) s0 := ⟨_, rfl⟩
  rw [← eu] at hW
  replace h := h u244 eu
  clear eu
  refine lv_aload hx hb dL_law_612 (lv_at hl 5 rfl) ?_
  refine lv_bipush (v := (6 : Int32)) hx hb dL_law_614 (by decide) ?_
  refine lv_iload hx hb dL_law_616 (lv_at hl 10 rfl) ?_
  refine lv_imul hx hb dL_law_618 ?_
  refine lv_iconst (v := (5 : Int32)) hx hb dL_law_619 (by decide) ?_
  refine lv_iadd hx hb dL_law_620 ?_
  refine lv_iload hx hb dL_law_621 (lv_at hl 12 rfl) ?_
  refine lv_if_eq (tgt := 630) hx hb dL_law_623 (by decide) (fun hc245 => ?_) (fun hc245 => ?_)
  · have h := h.1 hc245
    refine lv_aload hx hb dL_law_630 (lv_at hl 5 rfl) ?_
    refine lv_bipush (v := (6 : Int32)) hx hb dL_law_632 (by decide) ?_
    refine lv_iload hx hb dL_law_634 (lv_at hl 10 rfl) ?_
    refine lv_imul hx hb dL_law_636 ?_
    refine lv_iconst (v := (5 : Int32)) hx hb dL_law_637 (by decide) ?_
    refine lv_iadd hx hb dL_law_638 ?_
    refine rIald F hW h.1 h.2.1 dL_law_639 ?_
    replace h := h.2.2
    exact t_L_law_640 F hr hAb J139 hJ139 v1 v2 v3 v4 v5 v6 v7 v8 v9 v12 v13 v14 v15 (mA u244 v5 (((6 : Int32) * v12) + (5 : Int32)).toNatClampNeg) (((6 : Int32) * v12) + (5 : Int32)) v5 mc ms u244 _ _ _ _ _ h hW (lv_sub hl [0, 1, 2, 3, 4, 5, 6, 7, 8, 9, 10, 11, 12, 13] rfl) hbc hbs
  · have h := h.2 hc245
    refine lv_iconst (v := (1 : Int32)) hx hb dL_law_626 (by decide) ?_
    refine lv_goto (tgt := 640) hx hb dL_law_627 (by decide) ?_
    exact t_L_law_640 F hr hAb J139 hJ139 v1 v2 v3 v4 v5 v6 v7 v8 v9 v12 v13 v14 v15 (1 : Int32) (((6 : Int32) * v12) + (5 : Int32)) v5 mc ms u244 _ _ _ _ _ h hW (lv_sub hl [0, 1, 2, 3, 4, 5, 6, 7, 8, 9, 10, 11, 12, 13] rfl) hbc hbs
set_option maxHeartbeats 4000000 in
set_option maxRecDepth 100000 in
theorem t_L_law_553 {p : Program} {l : Launch} {e : Env} {s : State} {m : MethodId} {below : List Frame} {meth : Method} {c : Code} {G : Ctx} (F : Fx p l s m #[Value.ref (G.2.2 3)] meth c cL_law 17 RL G) (hr : meth.sig.returnType = ret) (hAb : ∀ q, Ab G q → s.heap.size ≤ q) (J139 : Nat → Nat → Nat → Nat → Nat → Nat → Nat → Int32 → Nat → Nat → Mem → Prop) (hJ139 : ∀ (v1 : Nat) (v2 : Nat) (v3 : Nat) (v4 : Nat) (v5 : Nat) (v6 : Nat) (v7 : Nat) (v8 : Int32) (mc ms : Nat) (u : Mem) (H : Heap) (locs : List Loc) (cells slots : Nat) (ls : Array Slot), J139 v1 v2 v3 v4 v5 v6 v7 v8 mc ms u → Wd G u s H locs → lv_has ls 17 [(0, .ref (G.2.2 3)), (1, .ref v1), (2, .ref v2), (3, .ref v3), (4, .ref v4), (5, .ref v5), (6, .ref v6), (7, .ref v7), (8, .int v8)] → cells + mc = 642681 → slots + ms = 7173425 → W p l e room_1 s m #[Value.ref (G.2.2 3)] below meth c H locs cells slots (lw_Z below #[Value.ref (G.2.2 3)] s) (F0 m 139 ls [])) : ∀ (v1 : Nat) (v2 : Nat) (v3 : Nat) (v4 : Nat) (v5 : Nat) (v6 : Nat) (v7 : Nat) (v8 : Int32) (v9 : Int32) (v12 : Int32) (v13 : Int32) (v14 : Int32) (s0 : Int32) (mc ms : Nat) (u : Mem) (H : Heap) (locs : List Loc) (cells slots : Nat) (ls : Array Slot), w_L_law_553 G J139 v1 v2 v3 v4 v5 v6 v7 v8 v9 v12 v13 v14 s0 mc ms u → Wd G u s H locs → lv_has ls 17 [(0, .ref (G.2.2 3)), (1, .ref v1), (2, .ref v2), (3, .ref v3), (4, .ref v4), (5, .ref v5), (6, .ref v6), (7, .ref v7), (8, .int v8), (9, .int v9), (12, .int v12), (13, .int v13), (14, .int v14)] → cells + mc = 642681 → slots + ms = 7173425 → W p l e room_1 s m #[Value.ref (G.2.2 3)] below meth c H locs cells slots (lw_Z below #[Value.ref (G.2.2 3)] s) (F0 m 553 ls [.int s0]) := by
  have hx := F.1.1
  have hb := F.1.2.1
  intro v1 v2 v3 v4 v5 v6 v7 v8 v9 v12 v13 v14 s0 mc ms u H locs cells slots ls h hW hl hbc hbs
  unfold w_L_law_553 at h
  refine lv_istore (lv' := [(15, .int s0), (0, .ref (G.2.2 3)), (1, .ref v1), (2, .ref v2), (3, .ref v3), (4, .ref v4), (5, .ref v5), (6, .ref v6), (7, .ref v7), (8, .int v8), (9, .int v9), (12, .int v12), (13, .int v13), (14, .int v14)]) hx hb dL_law_553 hl (by decide) rfl (fun ls hl9 => ?_)
  replace hl := hl9
  clear hl9
  refine lv_aload hx hb dL_law_555 (lv_at hl 5 rfl) ?_
  refine lv_iload hx hb dL_law_557 (lv_at hl 0 rfl) ?_
  refine rIald F hW h.1 h.2.1 dL_law_559 ?_
  replace h := h.2.2
  refine lv_bipush (v := (15 : Int32)) hx hb dL_law_560 (by decide) ?_
  refine lv_iload hx hb dL_law_562 (lv_at hl 12 rfl) ?_
  refine lv_imul hx hb dL_law_564 ?_
  refine lv_iadd hx hb dL_law_565 ?_
  refine lv_bipush (v := (10 : Int32)) hx hb dL_law_566 (by decide) ?_
  refine lv_isub hx hb dL_law_568 ?_
  refine lv_istore (lv' := [(16, .int (((mA u v4 s0.toNatClampNeg) + ((15 : Int32) * v13)) - (10 : Int32))), (15, .int s0), (0, .ref (G.2.2 3)), (1, .ref v1), (2, .ref v2), (3, .ref v3), (4, .ref v4), (5, .ref v5), (6, .ref v6), (7, .ref v7), (8, .int v8), (9, .int v9), (12, .int v12), (13, .int v13), (14, .int v14)]) hx hb dL_law_569 hl (by decide) rfl (fun ls hl9 => ?_)
  replace hl := hl9
  clear hl9
  refine lv_aload hx hb dL_law_571 (lv_at hl 6 rfl) ?_
  refine lv_iload hx hb dL_law_573 (lv_at hl 1 rfl) ?_
  refine lv_iload hx hb dL_law_575 (lv_at hl 14 rfl) ?_
  refine lv_if_ne (tgt := 588) hx hb dL_law_577 (by decide) (fun hc246 => ?_) (fun hc246 => ?_)
  · have h := h.2 hc246
    refine lv_iload hx hb dL_law_588 (lv_at hl 0 rfl) ?_
    refine lv_if_ge (tgt := 597) hx hb dL_law_590 (by decide) (fun hc247 => ?_) (fun hc247 => ?_)
    · have h := h.1 hc247
      refine lv_iload hx hb dL_law_597 (lv_at hl 0 rfl) ?_
      refine lv_bipush (v := (100 : Int32)) hx hb dL_law_599 (by decide) ?_
      refine lv_icmp_le (tgt := 609) hx hb dL_law_601 (by decide) (fun hc248 => ?_) (fun hc248 => ?_)
      · have h := h.1 hc248
        refine lv_iload hx hb dL_law_609 (lv_at hl 0 rfl) ?_
        exact t_L_law_611 F hr hAb J139 hJ139 v1 v2 v3 v4 v5 v6 v7 v8 v9 v12 v13 v14 s0 (((mA u v4 s0.toNatClampNeg) + ((15 : Int32) * v13)) - (10 : Int32)) s0 v4 mc ms u _ _ _ _ _ h hW (lv_sub hl [2, 3, 4, 5, 6, 7, 8, 9, 10, 11, 12, 13, 14, 1] rfl) hbc hbs
      · have h := h.2 hc248
        refine lv_bipush (v := (100 : Int32)) hx hb dL_law_604 (by decide) ?_
        refine lv_goto (tgt := 611) hx hb dL_law_606 (by decide) ?_
        exact t_L_law_611 F hr hAb J139 hJ139 v1 v2 v3 v4 v5 v6 v7 v8 v9 v12 v13 v14 s0 (100 : Int32) s0 v4 mc ms u _ _ _ _ _ h hW (lv_sub hl [2, 3, 4, 5, 6, 7, 8, 9, 10, 11, 12, 13, 14, 1] rfl) hbc hbs
    · have h := h.2 hc247
      refine lv_iconst (v := (0 : Int32)) hx hb dL_law_593 (by decide) ?_
      refine lv_goto (tgt := 611) hx hb dL_law_594 (by decide) ?_
      exact t_L_law_611 F hr hAb J139 hJ139 v1 v2 v3 v4 v5 v6 v7 v8 v9 v12 v13 v14 s0 (0 : Int32) s0 v4 mc ms u _ _ _ _ _ h hW (lv_sub hl [2, 3, 4, 5, 6, 7, 8, 9, 10, 11, 12, 13, 14, 1] rfl) hbc hbs
  · have h := h.1 hc246
    refine lv_aload hx hb dL_law_580 (lv_at hl 6 rfl) ?_
    refine lv_iload hx hb dL_law_582 (lv_at hl 1 rfl) ?_
    refine rIald F hW h.1 h.2.1 dL_law_584 ?_
    replace h := h.2.2
    refine lv_goto (tgt := 611) hx hb dL_law_585 (by decide) ?_
    exact t_L_law_611 F hr hAb J139 hJ139 v1 v2 v3 v4 v5 v6 v7 v8 v9 v12 v13 v14 s0 (mA u v4 s0.toNatClampNeg) s0 v4 mc ms u _ _ _ _ _ h hW (lv_sub hl [2, 3, 4, 5, 6, 7, 8, 9, 10, 11, 12, 13, 14, 1] rfl) hbc hbs
set_option maxHeartbeats 4000000 in
set_option maxRecDepth 100000 in
theorem t_L_law_528 {p : Program} {l : Launch} {e : Env} {s : State} {m : MethodId} {below : List Frame} {meth : Method} {c : Code} {G : Ctx} (F : Fx p l s m #[Value.ref (G.2.2 3)] meth c cL_law 17 RL G) (hr : meth.sig.returnType = ret) (hAb : ∀ q, Ab G q → s.heap.size ≤ q) (J139 : Nat → Nat → Nat → Nat → Nat → Nat → Nat → Int32 → Nat → Nat → Mem → Prop) (hJ139 : ∀ (v1 : Nat) (v2 : Nat) (v3 : Nat) (v4 : Nat) (v5 : Nat) (v6 : Nat) (v7 : Nat) (v8 : Int32) (mc ms : Nat) (u : Mem) (H : Heap) (locs : List Loc) (cells slots : Nat) (ls : Array Slot), J139 v1 v2 v3 v4 v5 v6 v7 v8 mc ms u → Wd G u s H locs → lv_has ls 17 [(0, .ref (G.2.2 3)), (1, .ref v1), (2, .ref v2), (3, .ref v3), (4, .ref v4), (5, .ref v5), (6, .ref v6), (7, .ref v7), (8, .int v8)] → cells + mc = 642681 → slots + ms = 7173425 → W p l e room_1 s m #[Value.ref (G.2.2 3)] below meth c H locs cells slots (lw_Z below #[Value.ref (G.2.2 3)] s) (F0 m 139 ls [])) : ∀ (v1 : Nat) (v2 : Nat) (v3 : Nat) (v4 : Nat) (v5 : Nat) (v6 : Nat) (v7 : Nat) (v8 : Int32) (v9 : Int32) (v12 : Int32) (v13 : Int32) (s0 : Int32) (mc ms : Nat) (u : Mem) (H : Heap) (locs : List Loc) (cells slots : Nat) (ls : Array Slot), w_L_law_528 G J139 v1 v2 v3 v4 v5 v6 v7 v8 v9 v12 v13 s0 mc ms u → Wd G u s H locs → lv_has ls 17 [(0, .ref (G.2.2 3)), (1, .ref v1), (2, .ref v2), (3, .ref v3), (4, .ref v4), (5, .ref v5), (6, .ref v6), (7, .ref v7), (8, .int v8), (9, .int v9), (12, .int v12), (13, .int v13)] → cells + mc = 642681 → slots + ms = 7173425 → W p l e room_1 s m #[Value.ref (G.2.2 3)] below meth c H locs cells slots (lw_Z below #[Value.ref (G.2.2 3)] s) (F0 m 528 ls [.int s0]) := by
  have hx := F.1.1
  have hb := F.1.2.1
  intro v1 v2 v3 v4 v5 v6 v7 v8 v9 v12 v13 s0 mc ms u H locs cells slots ls h hW hl hbc hbs
  unfold w_L_law_528 at h
  refine lv_istore (lv' := [(14, .int s0), (0, .ref (G.2.2 3)), (1, .ref v1), (2, .ref v2), (3, .ref v3), (4, .ref v4), (5, .ref v5), (6, .ref v6), (7, .ref v7), (8, .int v8), (9, .int v9), (12, .int v12), (13, .int v13)]) hx hb dL_law_528 hl (by decide) rfl (fun ls hl9 => ?_)
  replace hl := hl9
  clear hl9
  refine lv_iload hx hb dL_law_530 (lv_at hl 0 rfl) ?_
  refine lv_if_eq (tgt := 552) hx hb dL_law_532 (by decide) (fun hc249 => ?_) (fun hc249 => ?_)
  · have h := h.1 hc249
    refine lv_iconst (v := (1 : Int32)) hx hb dL_law_552 (by decide) ?_
    exact t_L_law_553 F hr hAb J139 hJ139 v1 v2 v3 v4 v5 v6 v7 v8 v9 v12 v13 s0 (1 : Int32) mc ms u _ _ _ _ _ h hW (lv_sub hl [1, 2, 3, 4, 5, 6, 7, 8, 9, 10, 11, 12, 0] rfl) hbc hbs
  · have h := h.2 hc249
    refine lv_iconst (v := (3 : Int32)) hx hb dL_law_535 (by decide) ?_
    refine lv_aload hx hb dL_law_536 (lv_at hl 6 rfl) ?_
    refine lv_bipush (v := (6 : Int32)) hx hb dL_law_538 (by decide) ?_
    refine lv_iload hx hb dL_law_540 (lv_at hl 11 rfl) ?_
    refine lv_imul hx hb dL_law_542 ?_
    refine lv_iconst (v := (3 : Int32)) hx hb dL_law_543 (by decide) ?_
    refine lv_iadd hx hb dL_law_544 ?_
    refine rIald F hW h.1 h.2.1 dL_law_545 ?_
    replace h := h.2.2
    refine lv_imul hx hb dL_law_546 ?_
    refine lv_iconst (v := (1 : Int32)) hx hb dL_law_547 (by decide) ?_
    refine lv_iadd hx hb dL_law_548 ?_
    refine lv_goto (tgt := 553) hx hb dL_law_549 (by decide) ?_
    exact t_L_law_553 F hr hAb J139 hJ139 v1 v2 v3 v4 v5 v6 v7 v8 v9 v12 v13 s0 (((3 : Int32) * (mA u v5 (((6 : Int32) * v12) + (3 : Int32)).toNatClampNeg)) + (1 : Int32)) mc ms u _ _ _ _ _ h hW (lv_sub hl [1, 2, 3, 4, 5, 6, 7, 8, 9, 10, 11, 12, 0] rfl) hbc hbs
set_option maxHeartbeats 4000000 in
set_option maxRecDepth 100000 in
theorem t_L_law_527 {p : Program} {l : Launch} {e : Env} {s : State} {m : MethodId} {below : List Frame} {meth : Method} {c : Code} {G : Ctx} (F : Fx p l s m #[Value.ref (G.2.2 3)] meth c cL_law 17 RL G) (hr : meth.sig.returnType = ret) (hAb : ∀ q, Ab G q → s.heap.size ≤ q) (J139 : Nat → Nat → Nat → Nat → Nat → Nat → Nat → Int32 → Nat → Nat → Mem → Prop) (hJ139 : ∀ (v1 : Nat) (v2 : Nat) (v3 : Nat) (v4 : Nat) (v5 : Nat) (v6 : Nat) (v7 : Nat) (v8 : Int32) (mc ms : Nat) (u : Mem) (H : Heap) (locs : List Loc) (cells slots : Nat) (ls : Array Slot), J139 v1 v2 v3 v4 v5 v6 v7 v8 mc ms u → Wd G u s H locs → lv_has ls 17 [(0, .ref (G.2.2 3)), (1, .ref v1), (2, .ref v2), (3, .ref v3), (4, .ref v4), (5, .ref v5), (6, .ref v6), (7, .ref v7), (8, .int v8)] → cells + mc = 642681 → slots + ms = 7173425 → W p l e room_1 s m #[Value.ref (G.2.2 3)] below meth c H locs cells slots (lw_Z below #[Value.ref (G.2.2 3)] s) (F0 m 139 ls [])) : ∀ (v1 : Nat) (v2 : Nat) (v3 : Nat) (v4 : Nat) (v5 : Nat) (v6 : Nat) (v7 : Nat) (v8 : Int32) (v9 : Int32) (v12 : Int32) (v13 : Int32) (mc ms : Nat) (u : Mem) (H : Heap) (locs : List Loc) (cells slots : Nat) (ls : Array Slot), w_L_law_527 G J139 v1 v2 v3 v4 v5 v6 v7 v8 v9 v12 v13 mc ms u → Wd G u s H locs → lv_has ls 17 [(0, .ref (G.2.2 3)), (1, .ref v1), (2, .ref v2), (3, .ref v3), (4, .ref v4), (5, .ref v5), (6, .ref v6), (7, .ref v7), (8, .int v8), (9, .int v9), (12, .int v12), (13, .int v13)] → cells + mc = 642681 → slots + ms = 7173425 → W p l e room_1 s m #[Value.ref (G.2.2 3)] below meth c H locs cells slots (lw_Z below #[Value.ref (G.2.2 3)] s) (F0 m 527 ls []) := by
  have hx := F.1.1
  have hb := F.1.2.1
  intro v1 v2 v3 v4 v5 v6 v7 v8 v9 v12 v13 mc ms u H locs cells slots ls h hW hl hbc hbs
  unfold w_L_law_527 at h
  refine lv_iconst (v := (0 : Int32)) hx hb dL_law_527 (by decide) ?_
  exact t_L_law_528 F hr hAb J139 hJ139 v1 v2 v3 v4 v5 v6 v7 v8 v9 v12 v13 (0 : Int32) mc ms u _ _ _ _ _ h hW (lv_sub hl [0, 1, 2, 3, 4, 5, 6, 7, 8, 9, 10, 11] rfl) hbc hbs
set_option maxHeartbeats 4000000 in
set_option maxRecDepth 100000 in
theorem t_L_law_455 {p : Program} {l : Launch} {e : Env} {s : State} {m : MethodId} {below : List Frame} {meth : Method} {c : Code} {G : Ctx} (F : Fx p l s m #[Value.ref (G.2.2 3)] meth c cL_law 17 RL G) (hr : meth.sig.returnType = ret) (hAb : ∀ q, Ab G q → s.heap.size ≤ q) (J139 : Nat → Nat → Nat → Nat → Nat → Nat → Nat → Int32 → Nat → Nat → Mem → Prop) (hJ139 : ∀ (v1 : Nat) (v2 : Nat) (v3 : Nat) (v4 : Nat) (v5 : Nat) (v6 : Nat) (v7 : Nat) (v8 : Int32) (mc ms : Nat) (u : Mem) (H : Heap) (locs : List Loc) (cells slots : Nat) (ls : Array Slot), J139 v1 v2 v3 v4 v5 v6 v7 v8 mc ms u → Wd G u s H locs → lv_has ls 17 [(0, .ref (G.2.2 3)), (1, .ref v1), (2, .ref v2), (3, .ref v3), (4, .ref v4), (5, .ref v5), (6, .ref v6), (7, .ref v7), (8, .int v8)] → cells + mc = 642681 → slots + ms = 7173425 → W p l e room_1 s m #[Value.ref (G.2.2 3)] below meth c H locs cells slots (lw_Z below #[Value.ref (G.2.2 3)] s) (F0 m 139 ls [])) : ∀ (v1 : Nat) (v2 : Nat) (v3 : Nat) (v4 : Nat) (v5 : Nat) (v6 : Nat) (v7 : Nat) (v8 : Int32) (v9 : Int32) (s0 : Int32) (mc ms : Nat) (u : Mem) (H : Heap) (locs : List Loc) (cells slots : Nat) (ls : Array Slot), w_L_law_455 G J139 v1 v2 v3 v4 v5 v6 v7 v8 v9 s0 mc ms u → Wd G u s H locs → lv_has ls 17 [(0, .ref (G.2.2 3)), (1, .ref v1), (2, .ref v2), (3, .ref v3), (4, .ref v4), (5, .ref v5), (6, .ref v6), (7, .ref v7), (8, .int v8), (9, .int v9)] → cells + mc = 642681 → slots + ms = 7173425 → W p l e room_1 s m #[Value.ref (G.2.2 3)] below meth c H locs cells slots (lw_Z below #[Value.ref (G.2.2 3)] s) (F0 m 455 ls [.int s0]) := by
  have hx := F.1.1
  have hb := F.1.2.1
  intro v1 v2 v3 v4 v5 v6 v7 v8 v9 s0 mc ms u H locs cells slots ls h hW hl hbc hbs
  unfold w_L_law_455 at h
  refine lv_istore (lv' := [(11, .int s0), (0, .ref (G.2.2 3)), (1, .ref v1), (2, .ref v2), (3, .ref v3), (4, .ref v4), (5, .ref v5), (6, .ref v6), (7, .ref v7), (8, .int v8), (9, .int v9)]) hx hb dL_law_455 hl (by decide) rfl (fun ls hl9 => ?_)
  replace hl := hl9
  clear hl9
  refine lv_goto (tgt := 750) hx hb dL_law_457 (by decide) ?_
  exact t_L_law_750 F hr hAb J139 hJ139 v1 v2 v3 v4 v5 v6 v7 v8 v9 s0 mc ms u _ _ _ _ _ h hW (lv_sub hl [1, 2, 3, 4, 5, 6, 7, 8, 9, 10, 0] rfl) hbc hbs
set_option maxHeartbeats 4000000 in
set_option maxRecDepth 100000 in
theorem t_L_law_309 {p : Program} {l : Launch} {e : Env} {s : State} {m : MethodId} {below : List Frame} {meth : Method} {c : Code} {G : Ctx} (F : Fx p l s m #[Value.ref (G.2.2 3)] meth c cL_law 17 RL G) (hr : meth.sig.returnType = ret) (hAb : ∀ q, Ab G q → s.heap.size ≤ q) (J139 : Nat → Nat → Nat → Nat → Nat → Nat → Nat → Int32 → Nat → Nat → Mem → Prop) (hJ139 : ∀ (v1 : Nat) (v2 : Nat) (v3 : Nat) (v4 : Nat) (v5 : Nat) (v6 : Nat) (v7 : Nat) (v8 : Int32) (mc ms : Nat) (u : Mem) (H : Heap) (locs : List Loc) (cells slots : Nat) (ls : Array Slot), J139 v1 v2 v3 v4 v5 v6 v7 v8 mc ms u → Wd G u s H locs → lv_has ls 17 [(0, .ref (G.2.2 3)), (1, .ref v1), (2, .ref v2), (3, .ref v3), (4, .ref v4), (5, .ref v5), (6, .ref v6), (7, .ref v7), (8, .int v8)] → cells + mc = 642681 → slots + ms = 7173425 → W p l e room_1 s m #[Value.ref (G.2.2 3)] below meth c H locs cells slots (lw_Z below #[Value.ref (G.2.2 3)] s) (F0 m 139 ls [])) : ∀ (v1 : Nat) (v2 : Nat) (v3 : Nat) (v4 : Nat) (v5 : Nat) (v6 : Nat) (v7 : Nat) (v8 : Int32) (v9 : Int32) (s0 : Int32) (s1 : Nat) (mc ms : Nat) (u : Mem) (H : Heap) (locs : List Loc) (cells slots : Nat) (ls : Array Slot), w_L_law_309 G J139 v1 v2 v3 v4 v5 v6 v7 v8 v9 s0 s1 mc ms u → Wd G u s H locs → lv_has ls 17 [(0, .ref (G.2.2 3)), (1, .ref v1), (2, .ref v2), (3, .ref v3), (4, .ref v4), (5, .ref v5), (6, .ref v6), (7, .ref v7), (8, .int v8), (9, .int v9)] → cells + mc = 642681 → slots + ms = 7173425 → W p l e room_1 s m #[Value.ref (G.2.2 3)] below meth c H locs cells slots (lw_Z below #[Value.ref (G.2.2 3)] s) (F0 m 309 ls [.int s0, .ref s1]) := by
  have hx := F.1.1
  have hb := F.1.2.1
  intro v1 v2 v3 v4 v5 v6 v7 v8 v9 s0 s1 mc ms u H locs cells slots ls h hW hl hbc hbs
  unfold w_L_law_309 at h
  refine lv_iload hx hb dL_law_309 (lv_at hl 9 rfl) ?_
  refine lv_iconst (v := (5 : Int32)) hx hb dL_law_311 (by decide) ?_
  refine lv_ishr hx hb dL_law_312 ?_
  refine lv_aload_n hx hb dL_law_313 rfl (lv_at hl 3 rfl) ?_
  obtain ⟨c252, b253, h1, h2, h⟩ := h
  have hf1 := bdf hbc h1
  have hf2 := bdf hbs h2
  refine cI (runS (n := 4) (As := [.ref s1, .int s0, .int (v9 >>> ((5 : Int32) &&& 31)), .ref v3]) (rest := []) F hW (c_L_streets F.2.2.2 G s1 s0 (v9 >>> ((5 : Int32) &&& 31)) v3 c252 b253 u _ h) q_160 q_161 q_68 q_162 (by decide +kernel) ⟨Nat.le_of_ble_eq_true rfl, Nat.le_of_ble_eq_true rfl⟩ dL_law_314 rfl hl.1 (Nat.le_of_ble_eq_true rfl) ⟨hf1, hf2⟩) hW (fun r251 u250 h9 H locs hW => ?_)
  replace h := h9
  clear h9
  replace hbc := bdg hbc h1
  replace hbs := bdg hbs h2
  clear h1 h2 hf1 hf2
  refine lv_istore (lv' := [(11, .int r251), (0, .ref (G.2.2 3)), (1, .ref v1), (2, .ref v2), (3, .ref v3), (4, .ref v4), (5, .ref v5), (6, .ref v6), (7, .ref v7), (8, .int v8), (9, .int v9)]) hx hb dL_law_317 hl (by decide) rfl (fun ls hl9 => ?_)
  replace hl := hl9
  clear hl9
  refine lv_goto (tgt := 750) hx hb dL_law_319 (by decide) ?_
  exact t_L_law_750 F hr hAb J139 hJ139 v1 v2 v3 v4 v5 v6 v7 v8 v9 r251 (mc - c252) (ms - b253) u250 _ _ _ _ _ h hW (lv_sub hl [1, 2, 3, 4, 5, 6, 7, 8, 9, 10, 0] rfl) hbc hbs
set_option maxHeartbeats 4000000 in
set_option maxRecDepth 100000 in
theorem t_L_law_279 {p : Program} {l : Launch} {e : Env} {s : State} {m : MethodId} {below : List Frame} {meth : Method} {c : Code} {G : Ctx} (F : Fx p l s m #[Value.ref (G.2.2 3)] meth c cL_law 17 RL G) (hr : meth.sig.returnType = ret) (hAb : ∀ q, Ab G q → s.heap.size ≤ q) (J139 : Nat → Nat → Nat → Nat → Nat → Nat → Nat → Int32 → Nat → Nat → Mem → Prop) (hJ139 : ∀ (v1 : Nat) (v2 : Nat) (v3 : Nat) (v4 : Nat) (v5 : Nat) (v6 : Nat) (v7 : Nat) (v8 : Int32) (mc ms : Nat) (u : Mem) (H : Heap) (locs : List Loc) (cells slots : Nat) (ls : Array Slot), J139 v1 v2 v3 v4 v5 v6 v7 v8 mc ms u → Wd G u s H locs → lv_has ls 17 [(0, .ref (G.2.2 3)), (1, .ref v1), (2, .ref v2), (3, .ref v3), (4, .ref v4), (5, .ref v5), (6, .ref v6), (7, .ref v7), (8, .int v8)] → cells + mc = 642681 → slots + ms = 7173425 → W p l e room_1 s m #[Value.ref (G.2.2 3)] below meth c H locs cells slots (lw_Z below #[Value.ref (G.2.2 3)] s) (F0 m 139 ls [])) : ∀ (v1 : Nat) (v2 : Nat) (v3 : Nat) (v4 : Nat) (v5 : Nat) (v6 : Nat) (v7 : Nat) (v8 : Int32) (v9 : Int32) (v10 : Int32) (mc ms : Nat) (u : Mem) (H : Heap) (locs : List Loc) (cells slots : Nat) (ls : Array Slot), w_L_law_279 G J139 v1 v2 v3 v4 v5 v6 v7 v8 v9 v10 mc ms u → Wd G u s H locs → lv_has ls 17 [(0, .ref (G.2.2 3)), (1, .ref v1), (2, .ref v2), (3, .ref v3), (4, .ref v4), (5, .ref v5), (6, .ref v6), (7, .ref v7), (8, .int v8), (9, .int v9), (10, .int v10)] → cells + mc = 642681 → slots + ms = 7173425 → W p l e room_1 s m #[Value.ref (G.2.2 3)] below meth c H locs cells slots (lw_Z below #[Value.ref (G.2.2 3)] s) (F0 m 279 ls []) := by
  have hx := F.1.1
  have hb := F.1.2.1
  intro v1 v2 v3 v4 v5 v6 v7 v8 v9 v10 mc ms u H locs cells slots ls h hW hl hbc hbs
  unfold w_L_law_279 at h
  refine lv_iload hx hb dL_law_279 (lv_at hl 10 rfl) ?_
  refine lv_bipush (v := (8 : Int32)) hx hb dL_law_281 (by decide) ?_
  refine lv_icmp_ge (tgt := 322) hx hb dL_law_283 (by decide) (fun hc254 => ?_) (fun hc254 => ?_)
  · have h := h.1 hc254
    refine lv_iload hx hb dL_law_322 (lv_at hl 10 rfl) ?_
    refine lv_bipush (v := (8 : Int32)) hx hb dL_law_324 (by decide) ?_
    refine lv_icmp_ne (tgt := 425) hx hb dL_law_326 (by decide) (fun hc255 => ?_) (fun hc255 => ?_)
    · have h := h.2 hc255
      refine lv_iload hx hb dL_law_425 (lv_at hl 10 rfl) ?_
      refine lv_bipush (v := (11 : Int32)) hx hb dL_law_427 (by decide) ?_
      refine lv_icmp_ge (tgt := 460) hx hb dL_law_429 (by decide) (fun hc256 => ?_) (fun hc256 => ?_)
      · have h := h.1 hc256
        refine lv_iload hx hb dL_law_460 (lv_at hl 10 rfl) ?_
        refine lv_bipush (v := (13 : Int32)) hx hb dL_law_462 (by decide) ?_
        refine lv_icmp_ge (tgt := 678) hx hb dL_law_464 (by decide) (fun hc257 => ?_) (fun hc257 => ?_)
        · have h := h.1 hc257
          exact t_L_law_678 F hr hAb J139 hJ139 v1 v2 v3 v4 v5 v6 v7 v8 v9 mc ms u _ _ _ _ _ h hW (lv_sub hl [0, 1, 2, 3, 4, 5, 6, 7, 8, 9] rfl) hbc hbs
        · have h := h.2 hc257
          refine lv_aload_n hx hb dL_law_467 rfl (lv_at hl 2 rfl) ?_
          refine lv_iconst (v := (2 : Int32)) hx hb dL_law_468 (by decide) ?_
          refine rIald F hW h.1 h.2.1 dL_law_469 ?_
          replace h := h.2.2
          refine lv_if_le (tgt := 678) hx hb dL_law_470 (by decide) (fun hc258 => ?_) (fun hc258 => ?_)
          · have h := h.1 hc258
            exact t_L_law_678 F hr hAb J139 hJ139 v1 v2 v3 v4 v5 v6 v7 v8 v9 mc ms u _ _ _ _ _ h hW (lv_sub hl [0, 1, 2, 3, 4, 5, 6, 7, 8, 9] rfl) hbc hbs
          · have h := h.2 hc258
            refine lv_iload hx hb dL_law_473 (lv_at hl 9 rfl) ?_
            refine lv_iconst (v := (5 : Int32)) hx hb dL_law_475 (by decide) ?_
            refine lv_ishr hx hb dL_law_476 ?_
            refine lv_aload_n hx hb dL_law_477 rfl (lv_at hl 2 rfl) ?_
            refine lv_iconst (v := (2 : Int32)) hx hb dL_law_478 (by decide) ?_
            refine rIald F hW h.1 h.2.1 dL_law_479 ?_
            replace h := h.2.2
            refine cI (runS (n := 2) (As := [.int (v9 >>> ((5 : Int32) &&& 31)), .int (mA u v2 (2 : Int32).toNatClampNeg)]) (rest := []) F hW (c_L_low F.2.2.2 G (v9 >>> ((5 : Int32) &&& 31)) (mA u v2 (2 : Int32).toNatClampNeg) u _ h) q_72 q_73 q_68 q_74 (by decide +kernel) ⟨Nat.le_of_ble_eq_true rfl, Nat.le_of_ble_eq_true rfl⟩ dL_law_480 rfl hl.1 (Nat.le_of_ble_eq_true rfl) ⟨Nat.le.intro hbc, Nat.le.intro hbs⟩) hW (fun r260 u259 h9 H locs hW => ?_)
            replace h := h9
            clear h9
            refine lv_istore (lv' := [(12, .int r260), (0, .ref (G.2.2 3)), (1, .ref v1), (2, .ref v2), (3, .ref v3), (4, .ref v4), (5, .ref v5), (6, .ref v6), (7, .ref v7), (8, .int v8), (9, .int v9), (10, .int v10)]) hx hb dL_law_483 hl (by decide) rfl (fun ls hl9 => ?_)
            replace hl := hl9
            clear hl9
            refine lv_iload hx hb dL_law_485 (lv_at hl 10 rfl) ?_
            refine lv_bipush (v := (8 : Int32)) hx hb dL_law_487 (by decide) ?_
            refine lv_ishr hx hb dL_law_489 ?_
            refine lv_iconst (v := (2 : Int32)) hx hb dL_law_490 (by decide) ?_
            refine cI (runS (n := 2) (As := [.int (v9 >>> ((8 : Int32) &&& 31)), .int (2 : Int32)]) (rest := []) F hW (c_L_low F.2.2.2 G (v9 >>> ((8 : Int32) &&& 31)) (2 : Int32) u259 _ h) q_72 q_73 q_68 q_74 (by decide +kernel) ⟨Nat.le_of_ble_eq_true rfl, Nat.le_of_ble_eq_true rfl⟩ dL_law_491 rfl hl.1 (Nat.le_of_ble_eq_true rfl) ⟨Nat.le.intro hbc, Nat.le.intro hbs⟩) hW (fun r262 u261 h9 H locs hW => ?_)
            replace h := h9
            clear h9
            refine lv_istore (lv' := [(13, .int r262), (12, .int r260), (0, .ref (G.2.2 3)), (1, .ref v1), (2, .ref v2), (3, .ref v3), (4, .ref v4), (5, .ref v5), (6, .ref v6), (7, .ref v7), (8, .int v8), (9, .int v9), (10, .int v10)]) hx hb dL_law_494 hl (by decide) rfl (fun ls hl9 => ?_)
            replace hl := hl9
            clear hl9
            refine lv_aload hx hb dL_law_496 (lv_at hl 7 rfl) ?_
            refine lv_bipush (v := (6 : Int32)) hx hb dL_law_498 (by decide) ?_
            refine lv_iload hx hb dL_law_500 (lv_at hl 1 rfl) ?_
            refine lv_imul hx hb dL_law_502 ?_
            refine lv_iconst (v := (2 : Int32)) hx hb dL_law_503 (by decide) ?_
            refine lv_iadd hx hb dL_law_504 ?_
            refine rIald F hW h.1 h.2.1 dL_law_505 ?_
            replace h := h.2.2
            refine lv_iconst (v := (3 : Int32)) hx hb dL_law_506 (by decide) ?_
            refine lv_icmp_ne (tgt := 527) hx hb dL_law_507 (by decide) (fun hc263 => ?_) (fun hc263 => ?_)
            · have h := h.2 hc263
              exact t_L_law_527 F hr hAb J139 hJ139 v1 v2 v3 v4 v5 v6 v7 v8 v9 r260 r262 mc ms u261 _ _ _ _ _ h hW (lv_sub hl [2, 3, 4, 5, 6, 7, 8, 9, 10, 11, 1, 0] rfl) hbc hbs
            · have h := h.1 hc263
              refine lv_aload hx hb dL_law_510 (lv_at hl 7 rfl) ?_
              refine lv_bipush (v := (6 : Int32)) hx hb dL_law_512 (by decide) ?_
              refine lv_iload hx hb dL_law_514 (lv_at hl 1 rfl) ?_
              refine lv_imul hx hb dL_law_516 ?_
              refine lv_iconst (v := (5 : Int32)) hx hb dL_law_517 (by decide) ?_
              refine lv_iadd hx hb dL_law_518 ?_
              refine rIald F hW h.1 h.2.1 dL_law_519 ?_
              replace h := h.2.2
              refine lv_if_ne (tgt := 527) hx hb dL_law_520 (by decide) (fun hc264 => ?_) (fun hc264 => ?_)
              · have h := h.2 hc264
                exact t_L_law_527 F hr hAb J139 hJ139 v1 v2 v3 v4 v5 v6 v7 v8 v9 r260 r262 mc ms u261 _ _ _ _ _ h hW (lv_sub hl [2, 3, 4, 5, 6, 7, 8, 9, 10, 11, 1, 0] rfl) hbc hbs
              · have h := h.1 hc264
                refine lv_iconst (v := (1 : Int32)) hx hb dL_law_523 (by decide) ?_
                refine lv_goto (tgt := 528) hx hb dL_law_524 (by decide) ?_
                exact t_L_law_528 F hr hAb J139 hJ139 v1 v2 v3 v4 v5 v6 v7 v8 v9 r260 r262 (1 : Int32) mc ms u261 _ _ _ _ _ h hW (lv_sub hl [2, 3, 4, 5, 6, 7, 8, 9, 10, 11, 1, 0] rfl) hbc hbs
      · have h := h.2 hc256
        refine lv_aload_n hx hb dL_law_432 rfl (lv_at hl 1 rfl) ?_
        refine lv_iconst (v := (1 : Int32)) hx hb dL_law_433 (by decide) ?_
        refine lv_iconst (v := (0 : Int32)) hx hb dL_law_434 (by decide) ?_
        refine lv_iconst (v := (0 : Int32)) hx hb dL_law_435 (by decide) ?_
        obtain ⟨c267, b268, h1, h2, h⟩ := h
        have hf1 := bdf hbc h1
        have hf2 := bdf hbs h2
        refine cI (runSW (n := 4) (As := [.ref v1, .int (1 : Int32), .int (0 : Int32), .int (0 : Int32)]) (rest := []) F hW (c_L_calls F.2.2.2 G v1 (1 : Int32) (0 : Int32) (0 : Int32) c267 b268 u _ h) q_194 q_195 q_68 q_196 (by decide +kernel) ⟨Nat.le_of_ble_eq_true rfl, Nat.le_of_ble_eq_true rfl⟩ dL_law_436 rfl hl.1 (Nat.le_of_ble_eq_true rfl) ⟨hf1, hf2⟩) hW (fun r266 u265 h9 H locs hW => ?_)
        replace h := h9
        clear h9
        replace hbc := bdg hbc h1
        replace hbs := bdg hbs h2
        clear h1 h2 hf1 hf2
        refine lv_aload hx hb dL_law_439 (lv_at hl 5 rfl) ?_
        refine lv_aload hx hb dL_law_441 (lv_at hl 7 rfl) ?_
        refine lv_aload_n hx hb dL_law_443 rfl (lv_at hl 2 rfl) ?_
        refine cI (runS (n := 3) (As := [.ref v5, .ref v7, .ref v2]) (rest := [.int r266]) F hW (c_L_night F.2.2.2 G v5 v7 v2 u265 _ h) q_257 q_258 q_68 q_259 (by decide +kernel) ⟨Nat.le_of_ble_eq_true rfl, Nat.le_of_ble_eq_true rfl⟩ dL_law_444 rfl hl.1 (Nat.le_of_ble_eq_true rfl) ⟨Nat.le.intro hbc, Nat.le.intro hbs⟩) hW (fun r270 u269 h9 H locs hW => ?_)
        replace h := h9
        clear h9
        refine lv_icmp_ne (tgt := 454) hx hb dL_law_447 (by decide) (fun hc271 => ?_) (fun hc271 => ?_)
        · have h := h.2 hc271
          refine lv_iconst (v := (0 : Int32)) hx hb dL_law_454 (by decide) ?_
          exact t_L_law_455 F hr hAb J139 hJ139 v1 v2 v3 v4 v5 v6 v7 v8 v9 (0 : Int32) (mc - c267) (ms - b268) u269 _ _ _ _ _ h hW (lv_sub hl [0, 1, 2, 3, 4, 5, 6, 7, 8, 9] rfl) hbc hbs
        · have h := h.1 hc271
          refine lv_iconst (v := (1 : Int32)) hx hb dL_law_450 (by decide) ?_
          refine lv_goto (tgt := 455) hx hb dL_law_451 (by decide) ?_
          exact t_L_law_455 F hr hAb J139 hJ139 v1 v2 v3 v4 v5 v6 v7 v8 v9 (1 : Int32) (mc - c267) (ms - b268) u269 _ _ _ _ _ h hW (lv_sub hl [0, 1, 2, 3, 4, 5, 6, 7, 8, 9] rfl) hbc hbs
    · have h := h.1 hc255
      refine lv_iload hx hb dL_law_329 (lv_at hl 9 rfl) ?_
      refine lv_iconst (v := (5 : Int32)) hx hb dL_law_331 (by decide) ?_
      refine lv_ishr hx hb dL_law_332 ?_
      refine lv_iconst (v := (4 : Int32)) hx hb dL_law_333 (by decide) ?_
      refine cI (runS (n := 2) (As := [.int (v9 >>> ((5 : Int32) &&& 31)), .int (4 : Int32)]) (rest := []) F hW (c_L_low F.2.2.2 G (v9 >>> ((5 : Int32) &&& 31)) (4 : Int32) u _ h) q_72 q_73 q_68 q_74 (by decide +kernel) ⟨Nat.le_of_ble_eq_true rfl, Nat.le_of_ble_eq_true rfl⟩ dL_law_334 rfl hl.1 (Nat.le_of_ble_eq_true rfl) ⟨Nat.le.intro hbc, Nat.le.intro hbs⟩) hW (fun r273 u272 h9 H locs hW => ?_)
      replace h := h9
      clear h9
      refine lv_istore (lv' := [(12, .int r273), (0, .ref (G.2.2 3)), (1, .ref v1), (2, .ref v2), (3, .ref v3), (4, .ref v4), (5, .ref v5), (6, .ref v6), (7, .ref v7), (8, .int v8), (9, .int v9), (10, .int v10)]) hx hb dL_law_337 hl (by decide) rfl (fun ls hl9 => ?_)
      replace hl := hl9
      clear hl9
      refine lv_iload hx hb dL_law_339 (lv_at hl 10 rfl) ?_
      refine lv_bipush (v := (7 : Int32)) hx hb dL_law_341 (by decide) ?_
      refine lv_ishr hx hb dL_law_343 ?_
      refine lv_bipush (v := (8 : Int32)) hx hb dL_law_344 (by decide) ?_
      refine cI (runS (n := 2) (As := [.int (v9 >>> ((7 : Int32) &&& 31)), .int (8 : Int32)]) (rest := []) F hW (c_L_low F.2.2.2 G (v9 >>> ((7 : Int32) &&& 31)) (8 : Int32) u272 _ h) q_72 q_73 q_68 q_74 (by decide +kernel) ⟨Nat.le_of_ble_eq_true rfl, Nat.le_of_ble_eq_true rfl⟩ dL_law_346 rfl hl.1 (Nat.le_of_ble_eq_true rfl) ⟨Nat.le.intro hbc, Nat.le.intro hbs⟩) hW (fun r275 u274 h9 H locs hW => ?_)
      replace h := h9
      clear h9
      refine lv_istore (lv' := [(13, .int r275), (12, .int r273), (0, .ref (G.2.2 3)), (1, .ref v1), (2, .ref v2), (3, .ref v3), (4, .ref v4), (5, .ref v5), (6, .ref v6), (7, .ref v7), (8, .int v8), (9, .int v9), (10, .int v10)]) hx hb dL_law_349 hl (by decide) rfl (fun ls hl9 => ?_)
      replace hl := hl9
      clear hl9
      refine lv_aload hx hb dL_law_351 (lv_at hl 6 rfl) ?_
      refine lv_iconst (v := (3 : Int32)) hx hb dL_law_353 (by decide) ?_
      refine lv_iload hx hb dL_law_354 (lv_at hl 1 rfl) ?_
      refine lv_imul hx hb dL_law_356 ?_
      refine lv_iconst (v := (2 : Int32)) hx hb dL_law_357 (by decide) ?_
      refine lv_iadd hx hb dL_law_358 ?_
      refine rIald F hW h.1 h.2.1 dL_law_359 ?_
      replace h := h.2.2
      refine lv_if_ge (tgt := 373) hx hb dL_law_360 (by decide) (fun hc276 => ?_) (fun hc276 => ?_)
      · have h := h.1 hc276
        refine lv_bipush (v := (-3 : Int32)) hx hb dL_law_373 (by decide) ?_
        exact t_L_law_375 F hr hAb J139 hJ139 v1 v2 v3 v4 v5 v6 v7 v8 v9 r273 r275 (-3 : Int32) mc ms u274 _ _ _ _ _ h hW (lv_sub hl [2, 3, 4, 5, 6, 7, 8, 9, 10, 11, 1, 0] rfl) hbc hbs
      · have h := h.2 hc276
        refine lv_aload hx hb dL_law_363 (lv_at hl 6 rfl) ?_
        refine lv_iconst (v := (3 : Int32)) hx hb dL_law_365 (by decide) ?_
        refine lv_iload hx hb dL_law_366 (lv_at hl 1 rfl) ?_
        refine lv_imul hx hb dL_law_368 ?_
        refine rIald F hW h.1 h.2.1 dL_law_369 ?_
        replace h := h.2.2
        refine lv_goto (tgt := 375) hx hb dL_law_370 (by decide) ?_
        exact t_L_law_375 F hr hAb J139 hJ139 v1 v2 v3 v4 v5 v6 v7 v8 v9 r273 r275 (mA u274 v4 ((3 : Int32) * r273).toNatClampNeg) mc ms u274 _ _ _ _ _ h hW (lv_sub hl [2, 3, 4, 5, 6, 7, 8, 9, 10, 11, 1, 0] rfl) hbc hbs
  · have h := h.2 hc254
    refine lv_aload_n hx hb dL_law_286 rfl (lv_at hl 1 rfl) ?_
    refine lv_iload hx hb dL_law_287 (lv_at hl 10 rfl) ?_
    refine lv_iconst (v := (5 : Int32)) hx hb dL_law_289 (by decide) ?_
    refine lv_icmp_ge (tgt := 297) hx hb dL_law_290 (by decide) (fun hc277 => ?_) (fun hc277 => ?_)
    · have h := h.1 hc277
      refine lv_iload hx hb dL_law_297 (lv_at hl 10 rfl) ?_
      refine lv_bipush (v := (7 : Int32)) hx hb dL_law_299 (by decide) ?_
      refine lv_icmp_ge (tgt := 308) hx hb dL_law_301 (by decide) (fun hc278 => ?_) (fun hc278 => ?_)
      · have h := h.1 hc278
        refine lv_iconst (v := (2 : Int32)) hx hb dL_law_308 (by decide) ?_
        exact t_L_law_309 F hr hAb J139 hJ139 v1 v2 v3 v4 v5 v6 v7 v8 v9 (2 : Int32) v1 mc ms u _ _ _ _ _ h hW (lv_sub hl [0, 1, 2, 3, 4, 5, 6, 7, 8, 9] rfl) hbc hbs
      · have h := h.2 hc278
        refine lv_iconst (v := (1 : Int32)) hx hb dL_law_304 (by decide) ?_
        refine lv_goto (tgt := 309) hx hb dL_law_305 (by decide) ?_
        exact t_L_law_309 F hr hAb J139 hJ139 v1 v2 v3 v4 v5 v6 v7 v8 v9 (1 : Int32) v1 mc ms u _ _ _ _ _ h hW (lv_sub hl [0, 1, 2, 3, 4, 5, 6, 7, 8, 9] rfl) hbc hbs
    · have h := h.2 hc277
      refine lv_iconst (v := (0 : Int32)) hx hb dL_law_293 (by decide) ?_
      refine lv_goto (tgt := 309) hx hb dL_law_294 (by decide) ?_
      exact t_L_law_309 F hr hAb J139 hJ139 v1 v2 v3 v4 v5 v6 v7 v8 v9 (0 : Int32) v1 mc ms u _ _ _ _ _ h hW (lv_sub hl [0, 1, 2, 3, 4, 5, 6, 7, 8, 9] rfl) hbc hbs
set_option maxHeartbeats 4000000 in
set_option maxRecDepth 100000 in
theorem t_L_law_274 {p : Program} {l : Launch} {e : Env} {s : State} {m : MethodId} {below : List Frame} {meth : Method} {c : Code} {G : Ctx} (F : Fx p l s m #[Value.ref (G.2.2 3)] meth c cL_law 17 RL G) (hr : meth.sig.returnType = ret) (hAb : ∀ q, Ab G q → s.heap.size ≤ q) (J139 : Nat → Nat → Nat → Nat → Nat → Nat → Nat → Int32 → Nat → Nat → Mem → Prop) (hJ139 : ∀ (v1 : Nat) (v2 : Nat) (v3 : Nat) (v4 : Nat) (v5 : Nat) (v6 : Nat) (v7 : Nat) (v8 : Int32) (mc ms : Nat) (u : Mem) (H : Heap) (locs : List Loc) (cells slots : Nat) (ls : Array Slot), J139 v1 v2 v3 v4 v5 v6 v7 v8 mc ms u → Wd G u s H locs → lv_has ls 17 [(0, .ref (G.2.2 3)), (1, .ref v1), (2, .ref v2), (3, .ref v3), (4, .ref v4), (5, .ref v5), (6, .ref v6), (7, .ref v7), (8, .int v8)] → cells + mc = 642681 → slots + ms = 7173425 → W p l e room_1 s m #[Value.ref (G.2.2 3)] below meth c H locs cells slots (lw_Z below #[Value.ref (G.2.2 3)] s) (F0 m 139 ls [])) : ∀ (v1 : Nat) (v2 : Nat) (v3 : Nat) (v4 : Nat) (v5 : Nat) (v6 : Nat) (v7 : Nat) (v8 : Int32) (v9 : Int32) (s0 : Int32) (mc ms : Nat) (u : Mem) (H : Heap) (locs : List Loc) (cells slots : Nat) (ls : Array Slot), w_L_law_274 G J139 v1 v2 v3 v4 v5 v6 v7 v8 v9 s0 mc ms u → Wd G u s H locs → lv_has ls 17 [(0, .ref (G.2.2 3)), (1, .ref v1), (2, .ref v2), (3, .ref v3), (4, .ref v4), (5, .ref v5), (6, .ref v6), (7, .ref v7), (8, .int v8), (9, .int v9)] → cells + mc = 642681 → slots + ms = 7173425 → W p l e room_1 s m #[Value.ref (G.2.2 3)] below meth c H locs cells slots (lw_Z below #[Value.ref (G.2.2 3)] s) (F0 m 274 ls [.int s0]) := by
  have hx := F.1.1
  have hb := F.1.2.1
  intro v1 v2 v3 v4 v5 v6 v7 v8 v9 s0 mc ms u H locs cells slots ls h hW hl hbc hbs
  unfold w_L_law_274 at h
  refine lv_istore (lv' := [(11, .int s0), (0, .ref (G.2.2 3)), (1, .ref v1), (2, .ref v2), (3, .ref v3), (4, .ref v4), (5, .ref v5), (6, .ref v6), (7, .ref v7), (8, .int v8), (9, .int v9)]) hx hb dL_law_274 hl (by decide) rfl (fun ls hl9 => ?_)
  replace hl := hl9
  clear hl9
  refine lv_goto (tgt := 750) hx hb dL_law_276 (by decide) ?_
  exact t_L_law_750 F hr hAb J139 hJ139 v1 v2 v3 v4 v5 v6 v7 v8 v9 s0 mc ms u _ _ _ _ _ h hW (lv_sub hl [1, 2, 3, 4, 5, 6, 7, 8, 9, 10, 0] rfl) hbc hbs
set_option maxHeartbeats 4000000 in
set_option maxRecDepth 100000 in
theorem t_L_law_139 {p : Program} {l : Launch} {e : Env} {s : State} {m : MethodId} {below : List Frame} {meth : Method} {c : Code} {G : Ctx} (F : Fx p l s m #[Value.ref (G.2.2 3)] meth c cL_law 17 RL G) (hr : meth.sig.returnType = ret) (hAb : ∀ q, Ab G q → s.heap.size ≤ q) : ∀ (n : Nat), ∀ (v1 : Nat) (v2 : Nat) (v3 : Nat) (v4 : Nat) (v5 : Nat) (v6 : Nat) (v7 : Nat) (v8 : Int32) (mc ms : Nat) (u : Mem) (H : Heap) (locs : List Loc) (cells slots : Nat) (ls : Array Slot), w_L_law_139 G n v1 v2 v3 v4 v5 v6 v7 v8 mc ms u → Wd G u s H locs → lv_has ls 17 [(0, .ref (G.2.2 3)), (1, .ref v1), (2, .ref v2), (3, .ref v3), (4, .ref v4), (5, .ref v5), (6, .ref v6), (7, .ref v7), (8, .int v8)] → cells + mc = 642681 → slots + ms = 7173425 → W p l e room_1 s m #[Value.ref (G.2.2 3)] below meth c H locs cells slots (lw_Z below #[Value.ref (G.2.2 3)] s) (F0 m 139 ls []) := by
  have hx := F.1.1
  have hb := F.1.2.1
  intro n
  induction n with
  | zero =>
    intro v1 v2 v3 v4 v5 v6 v7 v8 mc ms u H locs cells slots ls h hW hl hbc hbs
    exact h.elim
  | succ n hJ139 =>
    intro v1 v2 v3 v4 v5 v6 v7 v8 mc ms u H locs cells slots ls h hW hl hbc hbs
    have h : b_L_law_139 G (w_L_law_139 G n) v1 v2 v3 v4 v5 v6 v7 v8 mc ms u := h
    revert h
    generalize w_L_law_139 G n = J139 at hJ139 ⊢
    intro h
    unfold b_L_law_139 at h
    refine lv_iload hx hb dL_law_139 (lv_at hl 8 rfl) ?_
    refine lv_bipush (v := (90 : Int32)) hx hb dL_law_141 (by decide) ?_
    refine lv_icmp_ge (tgt := 784) hx hb dL_law_143 (by decide) (fun hc279 => ?_) (fun hc279 => ?_)
    · have h := h.1 hc279
      refine lv_iconst (v := (1 : Int32)) hx hb dL_law_784 (by decide) ?_
      refine va_forget (fun q hq => hAb _ (hW.2.2.2 q hq)) ?_
      refine W.widen (k := 642681) (n := 7173425) (Nat.le.intro hbc) (Nat.le.intro hbs) ?_
      exact lw_ret hx hb hr F.2.2.1 dL_law_785
    · have h := h.2 hc279
      refine lv_aload_n hx hb dL_law_146 rfl (lv_at hl 0 rfl) ?_
      refine lv_iload hx hb dL_law_147 (lv_at hl 8 rfl) ?_
      refine cI (runS (n := 2) (As := [.ref (G.2.2 3), .int v8]) (rest := []) F hW (c_L_cell F.2.2.2 G (G.2.2 3) v8 u _ h) q_66 q_67 q_68 q_69 (by decide +kernel) ⟨Nat.le_of_ble_eq_true rfl, Nat.le_of_ble_eq_true rfl⟩ dL_law_149 rfl hl.1 (Nat.le_of_ble_eq_true rfl) ⟨Nat.le.intro hbc, Nat.le.intro hbs⟩) hW (fun r281 u280 h9 H locs hW => ?_)
      replace h := h9
      clear h9
      refine lv_istore (lv' := [(9, .int r281), (0, .ref (G.2.2 3)), (1, .ref v1), (2, .ref v2), (3, .ref v3), (4, .ref v4), (5, .ref v5), (6, .ref v6), (7, .ref v7), (8, .int v8)]) hx hb dL_law_152 hl (by decide) rfl (fun ls hl9 => ?_)
      replace hl := hl9
      clear hl9
      refine lv_iload hx hb dL_law_154 (lv_at hl 0 rfl) ?_
      refine lv_bipush (v := (18 : Int32)) hx hb dL_law_156 (by decide) ?_
      refine cI (runS (n := 2) (As := [.int r281, .int (18 : Int32)]) (rest := []) F hW (c_L_low F.2.2.2 G r281 (18 : Int32) u280 _ h) q_72 q_73 q_68 q_74 (by decide +kernel) ⟨Nat.le_of_ble_eq_true rfl, Nat.le_of_ble_eq_true rfl⟩ dL_law_158 rfl hl.1 (Nat.le_of_ble_eq_true rfl) ⟨Nat.le.intro hbc, Nat.le.intro hbs⟩) hW (fun r283 u282 h9 H locs hW => ?_)
      replace h := h9
      clear h9
      refine lv_istore (lv' := [(10, .int r283), (9, .int r281), (0, .ref (G.2.2 3)), (1, .ref v1), (2, .ref v2), (3, .ref v3), (4, .ref v4), (5, .ref v5), (6, .ref v6), (7, .ref v7), (8, .int v8)]) hx hb dL_law_161 hl (by decide) rfl (fun ls hl9 => ?_)
      replace hl := hl9
      clear hl9
      refine lv_iconst (v := (1 : Int32)) hx hb dL_law_163 (by decide) ?_
      refine lv_istore (lv' := [(11, .int (1 : Int32)), (10, .int r283), (9, .int r281), (0, .ref (G.2.2 3)), (1, .ref v1), (2, .ref v2), (3, .ref v3), (4, .ref v4), (5, .ref v5), (6, .ref v6), (7, .ref v7), (8, .int v8)]) hx hb dL_law_164 hl (by decide) rfl (fun ls hl9 => ?_)
      replace hl := hl9
      clear hl9
      refine lv_iload hx hb dL_law_166 (lv_at hl 1 rfl) ?_
      refine lv_iconst (v := (3 : Int32)) hx hb dL_law_168 (by decide) ?_
      refine lv_icmp_ge (tgt := 279) hx hb dL_law_169 (by decide) (fun hc284 => ?_) (fun hc284 => ?_)
      · have h := h.1 hc284
        exact t_L_law_279 F hr hAb J139 hJ139 v1 v2 v3 v4 v5 v6 v7 v8 r281 r283 mc ms u282 _ _ _ _ _ h hW (lv_sub hl [3, 4, 5, 6, 7, 8, 9, 10, 11, 2, 1] rfl) hbc hbs
      · have h := h.2 hc284
        refine lv_aload_n hx hb dL_law_172 rfl (lv_at hl 5 rfl) ?_
        refine lv_iconst (v := (2 : Int32)) hx hb dL_law_173 (by decide) ?_
        refine rIald F hW h.1 h.2.1 dL_law_174 ?_
        replace h := h.2.2
        refine lv_bipush (v := (8 : Int32)) hx hb dL_law_175 (by decide) ?_
        refine lv_icmp_ge (tgt := 279) hx hb dL_law_177 (by decide) (fun hc285 => ?_) (fun hc285 => ?_)
        · have h := h.1 hc285
          exact t_L_law_279 F hr hAb J139 hJ139 v1 v2 v3 v4 v5 v6 v7 v8 r281 r283 mc ms u282 _ _ _ _ _ h hW (lv_sub hl [3, 4, 5, 6, 7, 8, 9, 10, 11, 2, 1] rfl) hbc hbs
        · have h := h.2 hc285
          refine lv_bipush (v := (6 : Int32)) hx hb dL_law_180 (by decide) ?_
          refine lv_aload_n hx hb dL_law_182 rfl (lv_at hl 5 rfl) ?_
          refine lv_iconst (v := (2 : Int32)) hx hb dL_law_183 (by decide) ?_
          refine rIald F hW h.1 h.2.1 dL_law_184 ?_
          replace h := h.2.2
          refine lv_imul hx hb dL_law_185 ?_
          refine lv_istore (lv' := [(12, .int ((6 : Int32) * (mA u282 v2 (2 : Int32).toNatClampNeg))), (11, .int (1 : Int32)), (10, .int r283), (9, .int r281), (0, .ref (G.2.2 3)), (1, .ref v1), (2, .ref v2), (3, .ref v3), (4, .ref v4), (5, .ref v5), (6, .ref v6), (7, .ref v7), (8, .int v8)]) hx hb dL_law_186 hl (by decide) rfl (fun ls hl9 => ?_)
          replace hl := hl9
          clear hl9
          refine lv_aload hx hb dL_law_188 (lv_at hl 9 rfl) ?_
          refine lv_iload hx hb dL_law_190 (lv_at hl 0 rfl) ?_
          refine lv_iload hx hb dL_law_192 (lv_at hl 3 rfl) ?_
          refine lv_iconst (v := (5 : Int32)) hx hb dL_law_194 (by decide) ?_
          refine lv_ishr hx hb dL_law_195 ?_
          refine lv_bipush (v := (8 : Int32)) hx hb dL_law_196 (by decide) ?_
          refine cI (runS (n := 2) (As := [.int (r281 >>> ((5 : Int32) &&& 31)), .int (8 : Int32)]) (rest := [.int ((6 : Int32) * (mA u282 v2 (2 : Int32).toNatClampNeg)), .ref v5]) F hW (c_L_low F.2.2.2 G (r281 >>> ((5 : Int32) &&& 31)) (8 : Int32) u282 _ h) q_72 q_73 q_68 q_74 (by decide +kernel) ⟨Nat.le_of_ble_eq_true rfl, Nat.le_of_ble_eq_true rfl⟩ dL_law_198 rfl hl.1 (Nat.le_of_ble_eq_true rfl) ⟨Nat.le.intro hbc, Nat.le.intro hbs⟩) hW (fun r287 u286 h9 H locs hW => ?_)
          replace h := h9
          clear h9
          refine rIast F hW h.1 h.2.1 dL_law_201 (fun H locs hW => ?_)
          replace h := h.2.2
          obtain ⟨u288, eu⟩ : ∃ z, z = setA u286 v5 (((6 : Int32) * (mA u282 v2 (2 : Int32).toNatClampNeg)).toNatClampNeg) r287 := ⟨_, rfl⟩
          rw [← eu] at hW
          replace h := h u288 eu
          clear eu
          refine lv_aload hx hb dL_law_202 (lv_at hl 9 rfl) ?_
          refine lv_iload hx hb dL_law_204 (lv_at hl 0 rfl) ?_
          refine lv_iconst (v := (1 : Int32)) hx hb dL_law_206 (by decide) ?_
          refine lv_iadd hx hb dL_law_207 ?_
          refine lv_aload hx hb dL_law_208 (lv_at hl 9 rfl) ?_
          refine lv_iload hx hb dL_law_210 (lv_at hl 0 rfl) ?_
          refine rIald F hW h.1 h.2.1 dL_law_212 ?_
          replace h := h.2.2
          refine lv_iconst (v := (1 : Int32)) hx hb dL_law_213 (by decide) ?_
          refine lv_iadd hx hb dL_law_214 ?_
          refine lv_iload hx hb dL_law_215 (lv_at hl 3 rfl) ?_
          refine lv_bipush (v := (8 : Int32)) hx hb dL_law_217 (by decide) ?_
          refine lv_ishr hx hb dL_law_219 ?_
          refine lv_bipush (v := (7 : Int32)) hx hb dL_law_220 (by decide) ?_
          refine cI (runS (n := 2) (As := [.int (r281 >>> ((8 : Int32) &&& 31)), .int (7 : Int32)]) (rest := [.int ((mA u288 v5 ((6 : Int32) * (mA u282 v2 (2 : Int32).toNatClampNeg)).toNatClampNeg) + (1 : Int32)), .int (((6 : Int32) * (mA u282 v2 (2 : Int32).toNatClampNeg)) + (1 : Int32)), .ref v5]) F hW (c_L_low F.2.2.2 G (r281 >>> ((8 : Int32) &&& 31)) (7 : Int32) u288 _ h) q_72 q_73 q_68 q_74 (by decide +kernel) ⟨Nat.le_of_ble_eq_true rfl, Nat.le_of_ble_eq_true rfl⟩ dL_law_222 rfl hl.1 (Nat.le_of_ble_eq_true rfl) ⟨Nat.le.intro hbc, Nat.le.intro hbs⟩) hW (fun r290 u289 h9 H locs hW => ?_)
          replace h := h9
          clear h9
          refine lv_iadd hx hb dL_law_225 ?_
          refine lv_bipush (v := (8 : Int32)) hx hb dL_law_226 (by decide) ?_
          refine lv_irem hx hb dL_law_228 h.1 ?_
          replace h := h.2
          refine rIast F hW h.1 h.2.1 dL_law_229 (fun H locs hW => ?_)
          replace h := h.2.2
          obtain ⟨u291, eu⟩ : ∃ z, z = setA u289 v5 ((((6 : Int32) * (mA u282 v2 (2 : Int32).toNatClampNeg)) + (1 : Int32)).toNatClampNeg) ((((mA u288 v5 ((6 : Int32) * (mA u282 v2 (2 : Int32).toNatClampNeg)).toNatClampNeg) + (1 : Int32)) + r290) - (((mA u288 v5 ((6 : Int32) * (mA u282 v2 (2 : Int32).toNatClampNeg)).toNatClampNeg) + (1 : Int32)) + r290) / (8 : Int32) * (8 : Int32)) := ⟨_, rfl⟩
          rw [← eu] at hW
          replace h := h u291 eu
          clear eu
          refine lv_aload hx hb dL_law_230 (lv_at hl 9 rfl) ?_
          refine lv_iload hx hb dL_law_232 (lv_at hl 0 rfl) ?_
          refine lv_iconst (v := (3 : Int32)) hx hb dL_law_234 (by decide) ?_
          refine lv_iadd hx hb dL_law_235 ?_
          refine lv_iconst (v := (-1 : Int32)) hx hb dL_law_236 (by decide) ?_
          refine rIast F hW h.1 h.2.1 dL_law_237 (fun H locs hW => ?_)
          replace h := h.2.2
          obtain ⟨u292, eu⟩ : ∃ z, z = setA u291 v5 ((((6 : Int32) * (mA u282 v2 (2 : Int32).toNatClampNeg)) + (3 : Int32)).toNatClampNeg) (-1 : Int32) := ⟨_, rfl⟩
          rw [← eu] at hW
          replace h := h u292 eu
          clear eu
          refine lv_aload_n hx hb dL_law_238 rfl (lv_at hl 6 rfl) ?_
          refine lv_iconst (v := (2 : Int32)) hx hb dL_law_239 (by decide) ?_
          refine lv_dup2_11 hx hb dL_law_240 rfl rfl ?_
          refine rIald F hW h.1 h.2.1 dL_law_241 ?_
          replace h := h.2.2
          refine lv_iconst (v := (1 : Int32)) hx hb dL_law_242 (by decide) ?_
          refine lv_iadd hx hb dL_law_243 ?_
          refine rIast F hW h.1 h.2.1 dL_law_244 (fun H locs hW => ?_)
          replace h := h.2.2
          obtain ⟨u293, eu⟩ : ∃ z, z = setA u292 v2 ((2 : Int32).toNatClampNeg) ((mA u292 v2 (2 : Int32).toNatClampNeg) + (1 : Int32)) := ⟨_, rfl⟩
          rw [← eu] at hW
          replace h := h u293 eu
          clear eu
          refine lv_aload_n hx hb dL_law_245 rfl (lv_at hl 5 rfl) ?_
          refine lv_aload hx hb dL_law_246 (lv_at hl 9 rfl) ?_
          refine lv_iload hx hb dL_law_248 (lv_at hl 0 rfl) ?_
          refine rIald F hW h.1 h.2.1 dL_law_250 ?_
          replace h := h.2.2
          refine lv_aload hx hb dL_law_251 (lv_at hl 9 rfl) ?_
          refine lv_iload hx hb dL_law_253 (lv_at hl 0 rfl) ?_
          refine lv_iconst (v := (1 : Int32)) hx hb dL_law_255 (by decide) ?_
          refine lv_iadd hx hb dL_law_256 ?_
          refine rIald F hW h.1 h.2.1 dL_law_257 ?_
          replace h := h.2.2
          obtain ⟨c296, b297, h1, h2, h⟩ := h
          have hf1 := bdf hbc h1
          have hf2 := bdf hbs h2
          obtain ⟨hob, h⟩ := h
          refine cX (runX (n := 2) (As := [.int (mA u293 v5 ((6 : Int32) * (mA u282 v2 (2 : Int32).toNatClampNeg)).toNatClampNeg), .int (mA u293 v5 (((6 : Int32) * (mA u282 v2 (2 : Int32).toNatClampNeg)) + (1 : Int32)).toNatClampNeg)]) (rest := []) F hW (c_X5_ask F.2.2.2 G v1 (mA u293 v5 ((6 : Int32) * (mA u282 v2 (2 : Int32).toNatClampNeg)).toNatClampNeg) (mA u293 v5 (((6 : Int32) * (mA u282 v2 (2 : Int32).toNatClampNeg)) + (1 : Int32)).toNatClampNeg) c296 b297 u293 _ _ h) hob (ci := 6) rfl q_76 q_77 q_78 q_2 q_79 rfl (by decide +kernel) ⟨Nat.le_of_ble_eq_true rfl, Nat.le_of_ble_eq_true rfl⟩ dL_law_258 rfl hl.1 (Nat.le_of_ble_eq_true rfl) ⟨hf1, hf2⟩) hW (fun r295 u294 h9 H locs hW => ?_) (fun E u294 h9 H locs hW => ?_)
          · replace h := h9
            clear h9
            replace hbc := bdg hbc h1
            replace hbs := bdg hbs h2
            clear h1 h2 hf1 hf2
            refine lv_aload_n hx hb dL_law_261 rfl (lv_at hl 6 rfl) ?_
            refine lv_iconst (v := (2 : Int32)) hx hb dL_law_262 (by decide) ?_
            refine rIald F hW h.1 h.2.1 dL_law_263 ?_
            replace h := h.2.2
            refine lv_iconst (v := (1 : Int32)) hx hb dL_law_264 (by decide) ?_
            refine lv_isub hx hb dL_law_265 ?_
            refine lv_icmp_ne (tgt := 273) hx hb dL_law_266 (by decide) (fun hc298 => ?_) (fun hc298 => ?_)
            · have h := h.2 hc298
              refine lv_iconst (v := (0 : Int32)) hx hb dL_law_273 (by decide) ?_
              exact t_L_law_274 F hr hAb J139 hJ139 v1 v2 v3 v4 v5 v6 v7 v8 r281 (0 : Int32) (mc - c296) (ms - b297) u294 _ _ _ _ _ h hW (lv_sub hl [4, 5, 6, 7, 8, 9, 10, 11, 12, 3] rfl) hbc hbs
            · have h := h.1 hc298
              refine lv_iconst (v := (1 : Int32)) hx hb dL_law_269 (by decide) ?_
              refine lv_goto (tgt := 274) hx hb dL_law_270 (by decide) ?_
              exact t_L_law_274 F hr hAb J139 hJ139 v1 v2 v3 v4 v5 v6 v7 v8 r281 (1 : Int32) (mc - c296) (ms - b297) u294 _ _ _ _ _ h hW (lv_sub hl [4, 5, 6, 7, 8, 9, 10, 11, 12, 3] rfl) hbc hbs
          · exact h9.elim
set_option maxHeartbeats 4000000 in
set_option maxRecDepth 100000 in
theorem t_L_law_103 {p : Program} {l : Launch} {e : Env} {s : State} {m : MethodId} {below : List Frame} {meth : Method} {c : Code} {G : Ctx} (F : Fx p l s m #[Value.ref (G.2.2 3)] meth c cL_law 17 RL G) (hr : meth.sig.returnType = ret) (hAb : ∀ q, Ab G q → s.heap.size ≤ q) : ∀ (n : Nat), ∀ (v1 : Nat) (v2 : Nat) (v3 : Nat) (v4 : Nat) (v5 : Nat) (v6 : Nat) (v7 : Nat) (v8 : Int32) (mc ms : Nat) (u : Mem) (H : Heap) (locs : List Loc) (cells slots : Nat) (ls : Array Slot), w_L_law_103 G n v1 v2 v3 v4 v5 v6 v7 v8 mc ms u → Wd G u s H locs → lv_has ls 17 [(0, .ref (G.2.2 3)), (1, .ref v1), (2, .ref v2), (3, .ref v3), (4, .ref v4), (5, .ref v5), (6, .ref v6), (7, .ref v7), (8, .int v8)] → cells + mc = 642681 → slots + ms = 7173425 → W p l e room_1 s m #[Value.ref (G.2.2 3)] below meth c H locs cells slots (lw_Z below #[Value.ref (G.2.2 3)] s) (F0 m 103 ls []) := by
  have hx := F.1.1
  have hb := F.1.2.1
  intro n
  induction n with
  | zero =>
    intro v1 v2 v3 v4 v5 v6 v7 v8 mc ms u H locs cells slots ls h hW hl hbc hbs
    exact h.elim
  | succ n hJ103 =>
    intro v1 v2 v3 v4 v5 v6 v7 v8 mc ms u H locs cells slots ls h hW hl hbc hbs
    have h : b_L_law_103 G (w_L_law_103 G n) v1 v2 v3 v4 v5 v6 v7 v8 mc ms u := h
    revert h
    generalize w_L_law_103 G n = J103 at hJ103 ⊢
    intro h
    unfold b_L_law_103 at h
    refine lv_iload hx hb dL_law_103 (lv_at hl 8 rfl) ?_
    refine lv_iconst (v := (4 : Int32)) hx hb dL_law_105 (by decide) ?_
    refine lv_icmp_ge (tgt := 136) hx hb dL_law_106 (by decide) (fun hc299 => ?_) (fun hc299 => ?_)
    · have h := h.1 hc299
      refine lv_iconst (v := (0 : Int32)) hx hb dL_law_136 (by decide) ?_
      refine lv_istore (lv' := [(8, .int (0 : Int32)), (0, .ref (G.2.2 3)), (1, .ref v1), (2, .ref v2), (3, .ref v3), (4, .ref v4), (5, .ref v5), (6, .ref v6), (7, .ref v7)]) hx hb dL_law_137 hl (by decide) rfl (fun ls hl9 => ?_)
      replace hl := hl9
      clear hl9
      obtain ⟨n, h⟩ := h
      exact t_L_law_139 F hr hAb n v1 v2 v3 v4 v5 v6 v7 (0 : Int32) mc ms u _ _ _ _ _ h hW (lv_sub hl [1, 2, 3, 4, 5, 6, 7, 8, 0] rfl) hbc hbs
    · have h := h.2 hc299
      refine lv_aload hx hb dL_law_109 (lv_at hl 4 rfl) ?_
      refine lv_iconst (v := (3 : Int32)) hx hb dL_law_111 (by decide) ?_
      refine lv_iload hx hb dL_law_112 (lv_at hl 8 rfl) ?_
      refine lv_imul hx hb dL_law_114 ?_
      refine lv_iconst (v := (1 : Int32)) hx hb dL_law_115 (by decide) ?_
      refine lv_iadd hx hb dL_law_116 ?_
      refine lv_bipush (v := (50 : Int32)) hx hb dL_law_117 (by decide) ?_
      refine rIast F hW h.1 h.2.1 dL_law_119 (fun H locs hW => ?_)
      replace h := h.2.2
      obtain ⟨u300, eu⟩ : ∃ z, z = setA u v4 ((((3 : Int32) * v8) + (1 : Int32)).toNatClampNeg) (50 : Int32) := ⟨_, rfl⟩
      rw [← eu] at hW
      replace h := h u300 eu
      clear eu
      refine lv_aload hx hb dL_law_120 (lv_at hl 4 rfl) ?_
      refine lv_iconst (v := (3 : Int32)) hx hb dL_law_122 (by decide) ?_
      refine lv_iload hx hb dL_law_123 (lv_at hl 8 rfl) ?_
      refine lv_imul hx hb dL_law_125 ?_
      refine lv_iconst (v := (2 : Int32)) hx hb dL_law_126 (by decide) ?_
      refine lv_iadd hx hb dL_law_127 ?_
      refine lv_iconst (v := (-1 : Int32)) hx hb dL_law_128 (by decide) ?_
      refine rIast F hW h.1 h.2.1 dL_law_129 (fun H locs hW => ?_)
      replace h := h.2.2
      obtain ⟨u301, eu⟩ : ∃ z, z = setA u300 v4 ((((3 : Int32) * v8) + (2 : Int32)).toNatClampNeg) (-1 : Int32) := ⟨_, rfl⟩
      rw [← eu] at hW
      replace h := h u301 eu
      clear eu
      refine lv_iinc (v := (v8 + 1)) (lv' := [(8, .int (v8 + 1)), (0, .ref (G.2.2 3)), (1, .ref v1), (2, .ref v2), (3, .ref v3), (4, .ref v4), (5, .ref v5), (6, .ref v6), (7, .ref v7)]) hx hb dL_law_130 hl (k := 8) rfl rfl (by decide) rfl (fun ls hl9 => ?_)
      replace hl := hl9
      clear hl9
      refine lv_goto (tgt := 103) hx hb dL_law_133 (by decide) ?_
      exact hJ103 v1 v2 v3 v4 v5 v6 v7 (v8 + 1) mc ms u301 _ _ _ _ _ h hW (lv_sub hl [1, 2, 3, 4, 5, 6, 7, 8, 0] rfl) hbc hbs
set_option maxHeartbeats 4000000 in
set_option maxRecDepth 100000 in
theorem t_L_law_44 {p : Program} {l : Launch} {e : Env} {s : State} {m : MethodId} {below : List Frame} {meth : Method} {c : Code} {G : Ctx} (F : Fx p l s m #[Value.ref (G.2.2 3)] meth c cL_law 17 RL G) (hr : meth.sig.returnType = ret) (hAb : ∀ q, Ab G q → s.heap.size ≤ q) : ∀ (n : Nat), ∀ (v1 : Nat) (v2 : Nat) (v3 : Nat) (v4 : Nat) (v5 : Nat) (v6 : Nat) (v7 : Nat) (v8 : Int32) (mc ms : Nat) (u : Mem) (H : Heap) (locs : List Loc) (cells slots : Nat) (ls : Array Slot), w_L_law_44 G n v1 v2 v3 v4 v5 v6 v7 v8 mc ms u → Wd G u s H locs → lv_has ls 17 [(0, .ref (G.2.2 3)), (1, .ref v1), (2, .ref v2), (3, .ref v3), (4, .ref v4), (5, .ref v5), (6, .ref v6), (7, .ref v7), (8, .int v8)] → cells + mc = 642681 → slots + ms = 7173425 → W p l e room_1 s m #[Value.ref (G.2.2 3)] below meth c H locs cells slots (lw_Z below #[Value.ref (G.2.2 3)] s) (F0 m 44 ls []) := by
  have hx := F.1.1
  have hb := F.1.2.1
  intro n
  induction n with
  | zero =>
    intro v1 v2 v3 v4 v5 v6 v7 v8 mc ms u H locs cells slots ls h hW hl hbc hbs
    exact h.elim
  | succ n hJ44 =>
    intro v1 v2 v3 v4 v5 v6 v7 v8 mc ms u H locs cells slots ls h hW hl hbc hbs
    have h : b_L_law_44 G (w_L_law_44 G n) v1 v2 v3 v4 v5 v6 v7 v8 mc ms u := h
    revert h
    generalize w_L_law_44 G n = J44 at hJ44 ⊢
    intro h
    unfold b_L_law_44 at h
    refine lv_iload hx hb dL_law_44 (lv_at hl 8 rfl) ?_
    refine lv_bipush (v := (8 : Int32)) hx hb dL_law_46 (by decide) ?_
    refine lv_icmp_ge (tgt := 100) hx hb dL_law_48 (by decide) (fun hc302 => ?_) (fun hc302 => ?_)
    · have h := h.1 hc302
      refine lv_iconst (v := (0 : Int32)) hx hb dL_law_100 (by decide) ?_
      refine lv_istore (lv' := [(8, .int (0 : Int32)), (0, .ref (G.2.2 3)), (1, .ref v1), (2, .ref v2), (3, .ref v3), (4, .ref v4), (5, .ref v5), (6, .ref v6), (7, .ref v7)]) hx hb dL_law_101 hl (by decide) rfl (fun ls hl9 => ?_)
      replace hl := hl9
      clear hl9
      obtain ⟨n, h⟩ := h
      exact t_L_law_103 F hr hAb n v1 v2 v3 v4 v5 v6 v7 (0 : Int32) mc ms u _ _ _ _ _ h hW (lv_sub hl [1, 2, 3, 4, 5, 6, 7, 8, 0] rfl) hbc hbs
    · have h := h.2 hc302
      refine lv_aload_n hx hb dL_law_51 rfl (lv_at hl 3 rfl) ?_
      refine lv_bipush (v := (6 : Int32)) hx hb dL_law_52 (by decide) ?_
      refine lv_iload hx hb dL_law_54 (lv_at hl 8 rfl) ?_
      refine lv_imul hx hb dL_law_56 ?_
      refine lv_iconst (v := (1 : Int32)) hx hb dL_law_57 (by decide) ?_
      refine lv_iadd hx hb dL_law_58 ?_
      refine lv_iconst (v := (1 : Int32)) hx hb dL_law_59 (by decide) ?_
      refine rIast F hW h.1 h.2.1 dL_law_60 (fun H locs hW => ?_)
      replace h := h.2.2
      obtain ⟨u303, eu⟩ : ∃ z, z = setA u v3 ((((6 : Int32) * v8) + (1 : Int32)).toNatClampNeg) (1 : Int32) := ⟨_, rfl⟩
      rw [← eu] at hW
      replace h := h u303 eu
      clear eu
      refine lv_aload_n hx hb dL_law_61 rfl (lv_at hl 3 rfl) ?_
      refine lv_bipush (v := (6 : Int32)) hx hb dL_law_62 (by decide) ?_
      refine lv_iload hx hb dL_law_64 (lv_at hl 8 rfl) ?_
      refine lv_imul hx hb dL_law_66 ?_
      refine lv_iconst (v := (3 : Int32)) hx hb dL_law_67 (by decide) ?_
      refine lv_iadd hx hb dL_law_68 ?_
      refine lv_bipush (v := (7 : Int32)) hx hb dL_law_69 (by decide) ?_
      refine rIast F hW h.1 h.2.1 dL_law_71 (fun H locs hW => ?_)
      replace h := h.2.2
      obtain ⟨u304, eu⟩ : ∃ z, z = setA u303 v3 ((((6 : Int32) * v8) + (3 : Int32)).toNatClampNeg) (7 : Int32) := ⟨_, rfl⟩
      rw [← eu] at hW
      replace h := h u304 eu
      clear eu
      refine lv_aload_n hx hb dL_law_72 rfl (lv_at hl 3 rfl) ?_
      refine lv_bipush (v := (6 : Int32)) hx hb dL_law_73 (by decide) ?_
      refine lv_iload hx hb dL_law_75 (lv_at hl 8 rfl) ?_
      refine lv_imul hx hb dL_law_77 ?_
      refine lv_iconst (v := (4 : Int32)) hx hb dL_law_78 (by decide) ?_
      refine lv_iadd hx hb dL_law_79 ?_
      refine lv_bipush (v := (7 : Int32)) hx hb dL_law_80 (by decide) ?_
      refine rIast F hW h.1 h.2.1 dL_law_82 (fun H locs hW => ?_)
      replace h := h.2.2
      obtain ⟨u305, eu⟩ : ∃ z, z = setA u304 v3 ((((6 : Int32) * v8) + (4 : Int32)).toNatClampNeg) (7 : Int32) := ⟨_, rfl⟩
      rw [← eu] at hW
      replace h := h u305 eu
      clear eu
      refine lv_aload_n hx hb dL_law_83 rfl (lv_at hl 3 rfl) ?_
      refine lv_bipush (v := (6 : Int32)) hx hb dL_law_84 (by decide) ?_
      refine lv_iload hx hb dL_law_86 (lv_at hl 8 rfl) ?_
      refine lv_imul hx hb dL_law_88 ?_
      refine lv_iconst (v := (5 : Int32)) hx hb dL_law_89 (by decide) ?_
      refine lv_iadd hx hb dL_law_90 ?_
      refine lv_bipush (v := (7 : Int32)) hx hb dL_law_91 (by decide) ?_
      refine rIast F hW h.1 h.2.1 dL_law_93 (fun H locs hW => ?_)
      replace h := h.2.2
      obtain ⟨u306, eu⟩ : ∃ z, z = setA u305 v3 ((((6 : Int32) * v8) + (5 : Int32)).toNatClampNeg) (7 : Int32) := ⟨_, rfl⟩
      rw [← eu] at hW
      replace h := h u306 eu
      clear eu
      refine lv_iinc (v := (v8 + 1)) (lv' := [(8, .int (v8 + 1)), (0, .ref (G.2.2 3)), (1, .ref v1), (2, .ref v2), (3, .ref v3), (4, .ref v4), (5, .ref v5), (6, .ref v6), (7, .ref v7)]) hx hb dL_law_94 hl (k := 8) rfl rfl (by decide) rfl (fun ls hl9 => ?_)
      replace hl := hl9
      clear hl9
      refine lv_goto (tgt := 44) hx hb dL_law_97 (by decide) ?_
      exact hJ44 v1 v2 v3 v4 v5 v6 v7 (v8 + 1) mc ms u306 _ _ _ _ _ h hW (lv_sub hl [1, 2, 3, 4, 5, 6, 7, 8, 0] rfl) hbc hbs
set_option maxHeartbeats 4000000 in
set_option maxRecDepth 100000 in
theorem t_L_law {p : Program} {l : Launch} {e : Env} {s : State} {m : MethodId} {below : List Frame} {meth : Method} {c : Code} {G : Ctx} (F : Fx p l s m #[Value.ref (G.2.2 3)] meth c cL_law 17 RL G) (hr : meth.sig.returnType = ret) (hAb : ∀ q, Ab G q → s.heap.size ≤ q) : ∀ (u : Mem) (ls : Array Slot), w_L_law G u → Wd G u s s.heap [] → lv_has ls 17 [(0, .ref (G.2.2 3))] → W p l e room_1 s m #[Value.ref (G.2.2 3)] below meth c s.heap [] 0 0 (lw_Z below #[Value.ref (G.2.2 3)] s) (F0 m 0 ls []) := by
  have hx := F.1.1
  have hb := F.1.2.1
  intro u ls h hW hl
  have hbc : 0 + 642681 = 642681 := rfl
  have hbs : 0 + 7173425 = 7173425 := rfl
  unfold w_L_law at h
  obtain ⟨h1, h2, h⟩ := h
  refine nw_6 (R := room_1) F hW q_0 q_1 q_2 hbc hbs h1 h2 dL_law_0 (fun q1 H hq hW => ?_)
  replace h := h q1 hq
  replace hbc := bdg hbc h1
  replace hbs := bdg hbs h2
  clear h1 h2
  obtain ⟨u2, eu⟩ : ∃ z, z = mNew u q1 6 0 := ⟨_, rfl⟩
  rw [← eu] at hW
  replace h := h u2 eu
  clear eu
  refine lv_dup hx hb dL_law_3 rfl ?_
  obtain ⟨c5, b6, h1, h2, h⟩ := h
  have hf1 := bdf hbc h1
  have hf2 := bdf hbs h2
  refine cV (runI (n := 0) (As := []) (rest := [.ref q1]) F hW (c_X5_init F.2.2.2 G q1 c5 b6 u2 _ h) q_4 q_5 q_2 q_6 rfl (by decide +kernel) ⟨Nat.le_of_ble_eq_true rfl, Nat.le_of_ble_eq_true rfl⟩ dL_law_4 rfl hl.1 (Nat.le_of_ble_eq_true rfl) ⟨hf1, hf2⟩) hW (fun u3 h9 H locs hW => ?_)
  replace h := h9
  clear h9
  replace hbc := bdg hbc h1
  replace hbs := bdg hbs h2
  clear h1 h2 hf1 hf2
  refine lv_astore_n (lv' := [(1, .ref q1), (0, .ref (G.2.2 3))]) hx hb dL_law_7 rfl hl (by decide) rfl (fun ls hl9 => ?_)
  replace hl := hl9
  clear hl9
  refine lv_iconst (v := (4 : Int32)) hx hb dL_law_8 (by decide) ?_
  obtain ⟨h1, h2, h⟩ := h
  refine rNewI (N := 4) (R := room_1) F hW hbc hbs h1 h2 (by decide) dL_law_9 (fun q7 H hq hW => ?_)
  replace h := h q7 hq
  replace hbc := bdg hbc h1
  replace hbs := bdg hbs h2
  clear h1 h2
  obtain ⟨u8, eu⟩ : ∃ z, z = mNew u3 q7 8 4 := ⟨_, rfl⟩
  rw [← eu] at hW
  replace h := h u8 eu
  clear eu
  refine lv_astore_n (lv' := [(2, .ref q7), (1, .ref q1), (0, .ref (G.2.2 3))]) hx hb dL_law_11 rfl hl (by decide) rfl (fun ls hl9 => ?_)
  replace hl := hl9
  clear hl9
  refine lv_bipush (v := (48 : Int32)) hx hb dL_law_12 (by decide) ?_
  obtain ⟨h1, h2, h⟩ := h
  refine rNewI (N := 48) (R := room_1) F hW hbc hbs h1 h2 (by decide) dL_law_14 (fun q9 H hq hW => ?_)
  replace h := h q9 hq
  replace hbc := bdg hbc h1
  replace hbs := bdg hbs h2
  clear h1 h2
  obtain ⟨u10, eu⟩ : ∃ z, z = mNew u8 q9 8 48 := ⟨_, rfl⟩
  rw [← eu] at hW
  replace h := h u10 eu
  clear eu
  refine lv_astore_n (lv' := [(3, .ref q9), (2, .ref q7), (1, .ref q1), (0, .ref (G.2.2 3))]) hx hb dL_law_16 rfl hl (by decide) rfl (fun ls hl9 => ?_)
  replace hl := hl9
  clear hl9
  refine lv_bipush (v := (12 : Int32)) hx hb dL_law_17 (by decide) ?_
  obtain ⟨h1, h2, h⟩ := h
  refine rNewI (N := 12) (R := room_1) F hW hbc hbs h1 h2 (by decide) dL_law_19 (fun q11 H hq hW => ?_)
  replace h := h q11 hq
  replace hbc := bdg hbc h1
  replace hbs := bdg hbs h2
  clear h1 h2
  obtain ⟨u12, eu⟩ : ∃ z, z = mNew u10 q11 8 12 := ⟨_, rfl⟩
  rw [← eu] at hW
  replace h := h u12 eu
  clear eu
  refine lv_astore (lv' := [(4, .ref q11), (3, .ref q9), (2, .ref q7), (1, .ref q1), (0, .ref (G.2.2 3))]) hx hb dL_law_21 hl (by decide) rfl (fun ls hl9 => ?_)
  replace hl := hl9
  clear hl9
  refine lv_bipush (v := (48 : Int32)) hx hb dL_law_23 (by decide) ?_
  obtain ⟨h1, h2, h⟩ := h
  refine rNewI (N := 48) (R := room_1) F hW hbc hbs h1 h2 (by decide) dL_law_25 (fun q13 H hq hW => ?_)
  replace h := h q13 hq
  replace hbc := bdg hbc h1
  replace hbs := bdg hbs h2
  clear h1 h2
  obtain ⟨u14, eu⟩ : ∃ z, z = mNew u12 q13 8 48 := ⟨_, rfl⟩
  rw [← eu] at hW
  replace h := h u14 eu
  clear eu
  refine lv_astore (lv' := [(5, .ref q13), (4, .ref q11), (3, .ref q9), (2, .ref q7), (1, .ref q1), (0, .ref (G.2.2 3))]) hx hb dL_law_27 hl (by decide) rfl (fun ls hl9 => ?_)
  replace hl := hl9
  clear hl9
  refine lv_bipush (v := (40 : Int32)) hx hb dL_law_29 (by decide) ?_
  obtain ⟨h1, h2, h⟩ := h
  refine rNewI (N := 40) (R := room_1) F hW hbc hbs h1 h2 (by decide) dL_law_31 (fun q15 H hq hW => ?_)
  replace h := h q15 hq
  replace hbc := bdg hbc h1
  replace hbs := bdg hbs h2
  clear h1 h2
  obtain ⟨u16, eu⟩ : ∃ z, z = mNew u14 q15 8 40 := ⟨_, rfl⟩
  rw [← eu] at hW
  replace h := h u16 eu
  clear eu
  refine lv_astore (lv' := [(6, .ref q15), (5, .ref q13), (4, .ref q11), (3, .ref q9), (2, .ref q7), (1, .ref q1), (0, .ref (G.2.2 3))]) hx hb dL_law_33 hl (by decide) rfl (fun ls hl9 => ?_)
  replace hl := hl9
  clear hl9
  refine lv_bipush (v := (40 : Int32)) hx hb dL_law_35 (by decide) ?_
  obtain ⟨h1, h2, h⟩ := h
  refine rNewI (N := 40) (R := room_1) F hW hbc hbs h1 h2 (by decide) dL_law_37 (fun q17 H hq hW => ?_)
  replace h := h q17 hq
  replace hbc := bdg hbc h1
  replace hbs := bdg hbs h2
  clear h1 h2
  obtain ⟨u18, eu⟩ : ∃ z, z = mNew u16 q17 8 40 := ⟨_, rfl⟩
  rw [← eu] at hW
  replace h := h u18 eu
  clear eu
  refine lv_astore (lv' := [(7, .ref q17), (6, .ref q15), (5, .ref q13), (4, .ref q11), (3, .ref q9), (2, .ref q7), (1, .ref q1), (0, .ref (G.2.2 3))]) hx hb dL_law_39 hl (by decide) rfl (fun ls hl9 => ?_)
  replace hl := hl9
  clear hl9
  refine lv_iconst (v := (0 : Int32)) hx hb dL_law_41 (by decide) ?_
  refine lv_istore (lv' := [(8, .int (0 : Int32)), (7, .ref q17), (6, .ref q15), (5, .ref q13), (4, .ref q11), (3, .ref q9), (2, .ref q7), (1, .ref q1), (0, .ref (G.2.2 3))]) hx hb dL_law_42 hl (by decide) rfl (fun ls hl9 => ?_)
  replace hl := hl9
  clear hl9
  obtain ⟨n, h⟩ := h
  exact t_L_law_44 F hr hAb n q1 q7 q9 q11 q13 q15 q17 (0 : Int32) ((((((((642681 - 1) - c5) - 1) - 1) - 1) - 1) - 1) - 1) ((((((((7173425 - 6) - b6) - 4) - 48) - 12) - 48) - 40) - 40) u18 _ _ _ _ _ h hW (lv_sub hl [8, 7, 6, 5, 4, 3, 2, 1, 0] rfl) hbc hbs
end WKL
