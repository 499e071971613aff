section WKL
/-- the law at work: its body, the script, its end -/
def Lx (p : Program) (l : Launch) (s : State) (m : MethodId) (meth : Method) (c : Code) (G : Ctx) (b L : Nat) (xs : Nat → Int32) : Prop :=
  Fx p l s m #[Value.ref b] meth c cL_law 7 RL G ∧ va_X b L xs s s.heap ∧ b < s.heap.size ∧ ¬ Ab G b ∧ (∀ q, Ab G q → s.heap.size ≤ q) ∧ meth.sig.returnType = ret
set_option maxHeartbeats 4000000 in
set_option maxRecDepth 100000 in
theorem t_L_law_1347 {p : Program} {l : Launch} {e : Env} {s : State} {m : MethodId} {below : List Frame} {meth : Method} {c : Code} {G : Ctx} {b L : Nat} {xs : Nat → Int32} (F : Lx p l s m meth c G b L xs) (J23 : Nat → Nat → Nat → Int32 → Nat → Nat → Mem → Prop) (hJ23 : ∀ (v1 : Nat) (v2 : Nat) (v3 : Nat) (v4 : Int32) (mc ms : Nat) (u : Mem) (H : Heap) (locs : List Loc) (cells slots : Nat) (ls : Array Slot), J23 v1 v2 v3 v4 mc ms u → Wd G u s H locs → lv_has ls 7 [(0, .ref b), (1, .ref v1), (2, .ref v2), (3, .ref v3), (4, .int v4)] → cells + mc = 601024 → slots + ms = 7293034 → W p l e room_1 s m #[Value.ref b] below meth c H locs cells slots (lw_Z below #[Value.ref b] s) (F0 m 23 ls [])) : ∀ (v1 : Nat) (v2 : Nat) (v3 : Nat) (v4 : Int32) (mc ms : Nat) (u : Mem) (H : Heap) (locs : List Loc) (cells slots : Nat) (ls : Array Slot), w_L_law_1347 G L xs J23 v1 v2 v3 v4 mc ms u → Wd G u s H locs → lv_has ls 7 [(0, .ref b), (1, .ref v1), (2, .ref v2), (3, .ref v3), (4, .int v4)] → cells + mc = 601024 → slots + ms = 7293034 → W p l e room_1 s m #[Value.ref b] below meth c H locs cells slots (lw_Z below #[Value.ref b] s) (F0 m 1347 ls []) := by
  have hx := F.1.1.1
  have hb := F.1.1.2.1
  intro v1 v2 v3 v4 mc ms u H locs cells slots ls h hW hl hbc hbs
  unfold w_L_law_1347 at h
  refine lv_iinc (v := (v4 + 4)) (lv' := [(4, .int (v4 + 4)), (0, .ref b), (1, .ref v1), (2, .ref v2), (3, .ref v3)]) hx hb dL_law_1347 hl (k := 4) rfl rfl (by decide) rfl (fun ls hl9 => ?_)
  replace hl := hl9
  clear hl9
  refine lv_goto (tgt := 23) hx hb dL_law_1350 (by decide) ?_
  exact hJ23 v1 v2 v3 (v4 + 4) mc ms u _ _ _ _ _ h hW (lv_sub hl [1, 2, 3, 4, 0] rfl) hbc hbs
set_option maxHeartbeats 4000000 in
set_option maxRecDepth 100000 in
theorem t_L_law_205 {p : Program} {l : Launch} {e : Env} {s : State} {m : MethodId} {below : List Frame} {meth : Method} {c : Code} {G : Ctx} {b L : Nat} {xs : Nat → Int32} (F : Lx p l s m meth c G b L xs) (J23 : Nat → Nat → Nat → Int32 → Nat → Nat → Mem → Prop) (hJ23 : ∀ (v1 : Nat) (v2 : Nat) (v3 : Nat) (v4 : Int32) (mc ms : Nat) (u : Mem) (H : Heap) (locs : List Loc) (cells slots : Nat) (ls : Array Slot), J23 v1 v2 v3 v4 mc ms u → Wd G u s H locs → lv_has ls 7 [(0, .ref b), (1, .ref v1), (2, .ref v2), (3, .ref v3), (4, .int v4)] → cells + mc = 601024 → slots + ms = 7293034 → W p l e room_1 s m #[Value.ref b] below meth c H locs cells slots (lw_Z below #[Value.ref b] s) (F0 m 23 ls [])) : ∀ (v1 : Nat) (v2 : Nat) (v3 : Nat) (v4 : Int32) (mc ms : Nat) (u : Mem) (H : Heap) (locs : List Loc) (cells slots : Nat) (ls : Array Slot), w_L_law_205 G L xs J23 v1 v2 v3 v4 mc ms u → Wd G u s H locs → lv_has ls 7 [(0, .ref b), (1, .ref v1), (2, .ref v2), (3, .ref v3), (4, .int v4)] → cells + mc = 601024 → slots + ms = 7293034 → W p l e room_1 s m #[Value.ref b] below meth c H locs cells slots (lw_Z below #[Value.ref b] s) (F0 m 205 ls []) := by
  have hx := F.1.1.1
  have hb := F.1.1.2.1
  intro v1 v2 v3 v4 mc ms u H locs cells slots ls h hW hl hbc hbs
  unfold w_L_law_205 at h
  refine lv_goto (tgt := 1347) hx hb dL_law_205 (by decide) ?_
  exact t_L_law_1347 F J23 hJ23 v1 v2 v3 v4 mc ms u _ _ _ _ _ h hW (lv_sub hl [0, 1, 2, 3, 4] rfl) hbc hbs
set_option maxHeartbeats 4000000 in
set_option maxRecDepth 100000 in
theorem t_L_law_140 {p : Program} {l : Launch} {e : Env} {s : State} {m : MethodId} {below : List Frame} {meth : Method} {c : Code} {G : Ctx} {b L : Nat} {xs : Nat → Int32} (F : Lx p l s m meth c G b L xs) (J23 : Nat → Nat → Nat → Int32 → Nat → Nat → Mem → Prop) (hJ23 : ∀ (v1 : Nat) (v2 : Nat) (v3 : Nat) (v4 : Int32) (mc ms : Nat) (u : Mem) (H : Heap) (locs : List Loc) (cells slots : Nat) (ls : Array Slot), J23 v1 v2 v3 v4 mc ms u → Wd G u s H locs → lv_has ls 7 [(0, .ref b), (1, .ref v1), (2, .ref v2), (3, .ref v3), (4, .int v4)] → cells + mc = 601024 → slots + ms = 7293034 → W p l e room_1 s m #[Value.ref b] below meth c H locs cells slots (lw_Z below #[Value.ref b] s) (F0 m 23 ls [])) : ∀ (v1 : Nat) (v2 : Nat) (v3 : Nat) (v4 : Int32) (mc ms : Nat) (u : Mem) (H : Heap) (locs : List Loc) (cells slots : Nat) (ls : Array Slot), w_L_law_140 G L xs J23 v1 v2 v3 v4 mc ms u → Wd G u s H locs → lv_has ls 7 [(0, .ref b), (1, .ref v1), (2, .ref v2), (3, .ref v3), (4, .int v4)] → cells + mc = 601024 → slots + ms = 7293034 → W p l e room_1 s m #[Value.ref b] below meth c H locs cells slots (lw_Z below #[Value.ref b] s) (F0 m 140 ls []) := by
  have hx := F.1.1.1
  have hb := F.1.1.2.1
  intro v1 v2 v3 v4 mc ms u H locs cells slots ls h hW hl hbc hbs
  unfold w_L_law_140 at h
  refine lv_aload_n hx hb dL_law_140 rfl (lv_at hl 1 rfl) ?_
  refine lv_aload_n hx hb dL_law_141 rfl (lv_at hl 0 rfl) ?_
  refine lv_iload hx hb dL_law_142 (lv_at hl 4 rfl) ?_
  refine lv_iconst (v := (1 : Int32)) hx hb dL_law_144 (by decide) ?_
  refine lv_iadd hx hb dL_law_145 ?_
  refine va_sld hx hb F.2.1 F.2.2.1 F.2.2.2.1 hW.2 h.1 dL_law_146 ?_
  replace h := h.2
  refine lv_aload_n hx hb dL_law_147 rfl (lv_at hl 0 rfl) ?_
  refine lv_iload hx hb dL_law_148 (lv_at hl 4 rfl) ?_
  refine lv_iconst (v := (2 : Int32)) hx hb dL_law_150 (by decide) ?_
  refine lv_iadd hx hb dL_law_151 ?_
  refine va_sld hx hb F.2.1 F.2.2.1 F.2.2.2.1 hW.2 h.1 dL_law_152 ?_
  replace h := h.2
  refine lv_aload_n hx hb dL_law_153 rfl (lv_at hl 3 rfl) ?_
  obtain ⟨c455, b456, h1, h2, h⟩ := h
  have hf1 := bdf hbc h1
  have hf2 := bdf hbs h2
  refine cI (runSW (n := 4) (As := [.ref v1, .int (xs (v4 + (1 : Int32)).toNatClampNeg), .int (xs (v4 + (2 : Int32)).toNatClampNeg), .ref v3]) (rest := []) F.1 hW (c_L_pay F.1.2.2.2 G v1 (xs (v4 + (1 : Int32)).toNatClampNeg) (xs (v4 + (2 : Int32)).toNatClampNeg) v3 c455 b456 u _ h) q_92 q_93 q_94 q_95 (by decide +kernel) ⟨Nat.le_of_ble_eq_true rfl, Nat.le_of_ble_eq_true rfl⟩ dL_law_154 rfl hl.1 (Nat.le_of_ble_eq_true rfl) ⟨hf1, hf2⟩) hW (fun r454 u453 h9 H locs hW => ?_)
  replace h := h9
  clear h9
  replace hbc := bdg hbc h1
  replace hbs := bdg hbs h2
  clear h1 h2 hf1 hf2
  refine lv_istore (lv' := [(5, .int r454), (0, .ref b), (1, .ref v1), (2, .ref v2), (3, .ref v3), (4, .int v4)]) hx hb dL_law_157 hl (by decide) rfl (fun ls hl9 => ?_)
  replace hl := hl9
  clear hl9
  refine lv_aload_n hx hb dL_law_159 rfl (lv_at hl 3 rfl) ?_
  refine lv_aload_n hx hb dL_law_160 rfl (lv_at hl 1 rfl) ?_
  refine lv_iload hx hb dL_law_161 (lv_at hl 5 rfl) ?_
  refine lv_iconst (v := (1 : Int32)) hx hb dL_law_163 (by decide) ?_
  refine lv_iadd hx hb dL_law_164 ?_
  refine va_sld hx hb F.2.1 F.2.2.1 F.2.2.2.1 hW.2 h.1 dL_law_165 ?_
  replace h := h.2
  refine lv_aload_n hx hb dL_law_166 rfl (lv_at hl 1 rfl) ?_
  refine lv_iload hx hb dL_law_167 (lv_at hl 5 rfl) ?_
  refine lv_iconst (v := (2 : Int32)) hx hb dL_law_169 (by decide) ?_
  refine lv_iadd hx hb dL_law_170 ?_
  refine va_sld hx hb F.2.1 F.2.2.1 F.2.2.2.1 hW.2 h.1 dL_law_171 ?_
  replace h := h.2
  obtain ⟨hob, h⟩ := h
  refine cI (runV (n := 2) (As := [.int (xs (v4 + (1 : Int32)).toNatClampNeg), .int (xs (v4 + (2 : Int32)).toNatClampNeg)]) (rest := []) F.1 hW (c_X6_pay F.1.2.2.2 G v2 (xs (v4 + (1 : Int32)).toNatClampNeg) (xs (v4 + (2 : Int32)).toNatClampNeg) u453 _ h) hob (ci := 7) rfl q_114 q_115 q_116 q_5 q_117 rfl (by decide +kernel) ⟨Nat.le_of_ble_eq_true rfl, Nat.le_of_ble_eq_true rfl⟩ dL_law_172 rfl hl.1 (Nat.le_of_ble_eq_true rfl) ⟨Nat.le.intro hbc, Nat.le.intro hbs⟩) hW (fun r458 u457 h9 H locs hW => ?_)
  replace h := h9
  clear h9
  refine lv_istore (lv' := [(6, .int r458), (5, .int r454), (0, .ref b), (1, .ref v1), (2, .ref v2), (3, .ref v3), (4, .int v4)]) hx hb dL_law_175 hl (by decide) rfl (fun ls hl9 => ?_)
  replace hl := hl9
  clear hl9
  refine lv_aload_n hx hb dL_law_177 rfl (lv_at hl 4 rfl) ?_
  obtain ⟨hob, h⟩ := h
  refine cI (runV (n := 0) (As := []) (rest := []) F.1 hW (c_X6_thrown F.1.2.2.2 G v2 u457 _ h) hob (ci := 7) rfl q_130 q_131 q_132 q_5 q_133 rfl (by decide +kernel) ⟨Nat.le_of_ble_eq_true rfl, Nat.le_of_ble_eq_true rfl⟩ dL_law_178 rfl hl.1 (Nat.le_of_ble_eq_true rfl) ⟨Nat.le.intro hbc, Nat.le.intro hbs⟩) hW (fun r460 u459 h9 H locs hW => ?_)
  replace h := h9
  clear h9
  refine lv_iload hx hb dL_law_181 (lv_at hl 1 rfl) ?_
  refine lv_icmp_eq (tgt := 188) hx hb dL_law_183 (by decide) (fun hc461 => ?_) (fun hc461 => ?_)
  · have h := h.1 hc461
    refine lv_iload hx hb dL_law_188 (lv_at hl 1 rfl) ?_
    refine lv_if_ne (tgt := 205) hx hb dL_law_190 (by decide) (fun hc462 => ?_) (fun hc462 => ?_)
    · have h := h.2 hc462
      exact t_L_law_205 F J23 hJ23 v1 v2 v3 v4 (mc - c455) (ms - b456) u459 _ _ _ _ _ h hW (lv_sub hl [2, 3, 4, 5, 6] rfl) hbc hbs
    · have h := h.1 hc462
      refine lv_aload_n hx hb dL_law_193 rfl (lv_at hl 5 rfl) ?_
      refine lv_iconst (v := (0 : Int32)) hx hb dL_law_194 (by decide) ?_
      refine rJald F.1 hW h.1 h.2.1 dL_law_195 ?_
      replace h := h.2.2
      refine lv_iload hx hb dL_law_196 (lv_at hl 0 rfl) ?_
      refine lv_i2l hx hb dL_law_198 rfl ?_
      refine W.lcmp hx hb dL_law_199 ?_
      refine lv_if_eq (tgt := 205) hx hb dL_law_200 (by decide) (fun hc463 => ?_) (fun hc463 => ?_)
      · have h := h.1 hc463
        exact t_L_law_205 F J23 hJ23 v1 v2 v3 v4 (mc - c455) (ms - b456) u459 _ _ _ _ _ h hW (lv_sub hl [2, 3, 4, 5, 6] rfl) hbc hbs
      · have h := h.2 hc463
        refine lv_iconst (v := (0 : Int32)) hx hb dL_law_203 (by decide) ?_
        exact h.elim
  · have h := h.2 hc461
    refine lv_iconst (v := (0 : Int32)) hx hb dL_law_186 (by decide) ?_
    exact h.elim
set_option maxHeartbeats 4000000 in
set_option maxRecDepth 100000 in
theorem t_L_law_301 {p : Program} {l : Launch} {e : Env} {s : State} {m : MethodId} {below : List Frame} {meth : Method} {c : Code} {G : Ctx} {b L : Nat} {xs : Nat → Int32} (F : Lx p l s m meth c G b L xs) (J23 : Nat → Nat → Nat → Int32 → Nat → Nat → Mem → Prop) (hJ23 : ∀ (v1 : Nat) (v2 : Nat) (v3 : Nat) (v4 : Int32) (mc ms : Nat) (u : Mem) (H : Heap) (locs : List Loc) (cells slots : Nat) (ls : Array Slot), J23 v1 v2 v3 v4 mc ms u → Wd G u s H locs → lv_has ls 7 [(0, .ref b), (1, .ref v1), (2, .ref v2), (3, .ref v3), (4, .int v4)] → cells + mc = 601024 → slots + ms = 7293034 → W p l e room_1 s m #[Value.ref b] below meth c H locs cells slots (lw_Z below #[Value.ref b] s) (F0 m 23 ls [])) : ∀ (v1 : Nat) (v2 : Nat) (v3 : Nat) (v4 : Int32) (mc ms : Nat) (u : Mem) (H : Heap) (locs : List Loc) (cells slots : Nat) (ls : Array Slot), w_L_law_301 G L xs J23 v1 v2 v3 v4 mc ms u → Wd G u s H locs → lv_has ls 7 [(0, .ref b), (1, .ref v1), (2, .ref v2), (3, .ref v3), (4, .int v4)] → cells + mc = 601024 → slots + ms = 7293034 → W p l e room_1 s m #[Value.ref b] below meth c H locs cells slots (lw_Z below #[Value.ref b] s) (F0 m 301 ls []) := by
  have hx := F.1.1.1
  have hb := F.1.1.2.1
  intro v1 v2 v3 v4 mc ms u H locs cells slots ls h hW hl hbc hbs
  unfold w_L_law_301 at h
  refine lv_goto (tgt := 1347) hx hb dL_law_301 (by decide) ?_
  exact t_L_law_1347 F J23 hJ23 v1 v2 v3 v4 mc ms u _ _ _ _ _ h hW (lv_sub hl [0, 1, 2, 3, 4] rfl) hbc hbs
set_option maxHeartbeats 4000000 in
set_option maxRecDepth 100000 in
theorem t_L_law_268 {p : Program} {l : Launch} {e : Env} {s : State} {m : MethodId} {below : List Frame} {meth : Method} {c : Code} {G : Ctx} {b L : Nat} {xs : Nat → Int32} (F : Lx p l s m meth c G b L xs) (J23 : Nat → Nat → Nat → Int32 → Nat → Nat → Mem → Prop) (hJ23 : ∀ (v1 : Nat) (v2 : Nat) (v3 : Nat) (v4 : Int32) (mc ms : Nat) (u : Mem) (H : Heap) (locs : List Loc) (cells slots : Nat) (ls : Array Slot), J23 v1 v2 v3 v4 mc ms u → Wd G u s H locs → lv_has ls 7 [(0, .ref b), (1, .ref v1), (2, .ref v2), (3, .ref v3), (4, .int v4)] → cells + mc = 601024 → slots + ms = 7293034 → W p l e room_1 s m #[Value.ref b] below meth c H locs cells slots (lw_Z below #[Value.ref b] s) (F0 m 23 ls [])) : ∀ (v1 : Nat) (v2 : Nat) (v3 : Nat) (v4 : Int32) (v5 : Int32) (s0 : Int32) (s1 : Int32) (s2 : Int32) (s3 : Nat) (mc ms : Nat) (u : Mem) (H : Heap) (locs : List Loc) (cells slots : Nat) (ls : Array Slot), w_L_law_268 G L xs J23 v1 v2 v3 v4 v5 s0 s1 s2 s3 mc ms u → Wd G u s H locs → lv_has ls 7 [(0, .ref b), (1, .ref v1), (2, .ref v2), (3, .ref v3), (4, .int v4), (5, .int v5)] → cells + mc = 601024 → slots + ms = 7293034 → W p l e room_1 s m #[Value.ref b] below meth c H locs cells slots (lw_Z below #[Value.ref b] s) (F0 m 268 ls [.int s0, .int s1, .int s2, .ref s3]) := by
  have hx := F.1.1.1
  have hb := F.1.1.2.1
  intro v1 v2 v3 v4 v5 s0 s1 s2 s3 mc ms u H locs cells slots ls h hW hl hbc hbs
  unfold w_L_law_268 at h
  obtain ⟨hob, h⟩ := h
  refine cI (runV (n := 3) (As := [.int s2, .int s1, .int s0]) (rest := []) F.1 hW (c_X6_setStreet F.1.2.2.2 G s3 s2 s1 s0 u _ h) hob (ci := 7) rfl q_141 q_142 q_143 q_5 q_144 rfl (by decide +kernel) ⟨Nat.le_of_ble_eq_true rfl, Nat.le_of_ble_eq_true rfl⟩ dL_law_268 rfl hl.1 (Nat.le_of_ble_eq_true rfl) ⟨Nat.le.intro hbc, Nat.le.intro hbs⟩) hW (fun r465 u464 h9 H locs hW => ?_)
  replace h := h9
  clear h9
  refine lv_istore (lv' := [(6, .int r465), (0, .ref b), (1, .ref v1), (2, .ref v2), (3, .ref v3), (4, .int v4), (5, .int v5)]) hx hb dL_law_271 hl (by decide) rfl (fun ls hl9 => ?_)
  replace hl := hl9
  clear hl9
  refine lv_aload_n hx hb dL_law_273 rfl (lv_at hl 3 rfl) ?_
  obtain ⟨hob, h⟩ := h
  refine cI (runV (n := 0) (As := []) (rest := []) F.1 hW (c_X6_thrown F.1.2.2.2 G v2 u464 _ h) hob (ci := 7) rfl q_130 q_131 q_132 q_5 q_133 rfl (by decide +kernel) ⟨Nat.le_of_ble_eq_true rfl, Nat.le_of_ble_eq_true rfl⟩ dL_law_274 rfl hl.1 (Nat.le_of_ble_eq_true rfl) ⟨Nat.le.intro hbc, Nat.le.intro hbs⟩) hW (fun r467 u466 h9 H locs hW => ?_)
  replace h := h9
  clear h9
  refine lv_iload hx hb dL_law_277 (lv_at hl 6 rfl) ?_
  refine lv_icmp_eq (tgt := 284) hx hb dL_law_279 (by decide) (fun hc468 => ?_) (fun hc468 => ?_)
  · have h := h.1 hc468
    refine lv_iload hx hb dL_law_284 (lv_at hl 6 rfl) ?_
    refine lv_if_ne (tgt := 301) hx hb dL_law_286 (by decide) (fun hc469 => ?_) (fun hc469 => ?_)
    · have h := h.2 hc469
      exact t_L_law_301 F J23 hJ23 v1 v2 v3 v4 mc ms u466 _ _ _ _ _ h hW (lv_sub hl [1, 2, 3, 4, 5] rfl) hbc hbs
    · have h := h.1 hc469
      refine lv_aload_n hx hb dL_law_289 rfl (lv_at hl 4 rfl) ?_
      refine lv_iconst (v := (0 : Int32)) hx hb dL_law_290 (by decide) ?_
      refine rJald F.1 hW h.1 h.2.1 dL_law_291 ?_
      replace h := h.2.2
      refine lv_iload hx hb dL_law_292 (lv_at hl 0 rfl) ?_
      refine lv_i2l hx hb dL_law_294 rfl ?_
      refine W.lcmp hx hb dL_law_295 ?_
      refine lv_if_eq (tgt := 301) hx hb dL_law_296 (by decide) (fun hc470 => ?_) (fun hc470 => ?_)
      · have h := h.1 hc470
        exact t_L_law_301 F J23 hJ23 v1 v2 v3 v4 mc ms u466 _ _ _ _ _ h hW (lv_sub hl [1, 2, 3, 4, 5] rfl) hbc hbs
      · have h := h.2 hc470
        refine lv_iconst (v := (0 : Int32)) hx hb dL_law_299 (by decide) ?_
        exact h.elim
  · have h := h.2 hc468
    refine lv_iconst (v := (0 : Int32)) hx hb dL_law_282 (by decide) ?_
    exact h.elim
set_option maxHeartbeats 4000000 in
set_option maxRecDepth 100000 in
theorem t_L_law_235 {p : Program} {l : Launch} {e : Env} {s : State} {m : MethodId} {below : List Frame} {meth : Method} {c : Code} {G : Ctx} {b L : Nat} {xs : Nat → Int32} (F : Lx p l s m meth c G b L xs) (J23 : Nat → Nat → Nat → Int32 → Nat → Nat → Mem → Prop) (hJ23 : ∀ (v1 : Nat) (v2 : Nat) (v3 : Nat) (v4 : Int32) (mc ms : Nat) (u : Mem) (H : Heap) (locs : List Loc) (cells slots : Nat) (ls : Array Slot), J23 v1 v2 v3 v4 mc ms u → Wd G u s H locs → lv_has ls 7 [(0, .ref b), (1, .ref v1), (2, .ref v2), (3, .ref v3), (4, .int v4)] → cells + mc = 601024 → slots + ms = 7293034 → W p l e room_1 s m #[Value.ref b] below meth c H locs cells slots (lw_Z below #[Value.ref b] s) (F0 m 23 ls [])) : ∀ (v1 : Nat) (v2 : Nat) (v3 : Nat) (v4 : Int32) (s0 : Int32) (s1 : Int32) (s2 : Int32) (s3 : Nat) (mc ms : Nat) (u : Mem) (H : Heap) (locs : List Loc) (cells slots : Nat) (ls : Array Slot), w_L_law_235 G L xs J23 v1 v2 v3 v4 s0 s1 s2 s3 mc ms u → Wd G u s H locs → lv_has ls 7 [(0, .ref b), (1, .ref v1), (2, .ref v2), (3, .ref v3), (4, .int v4)] → cells + mc = 601024 → slots + ms = 7293034 → W p l e room_1 s m #[Value.ref b] below meth c H locs cells slots (lw_Z below #[Value.ref b] s) (F0 m 235 ls [.int s0, .int s1, .int s2, .ref s3]) := by
  have hx := F.1.1.1
  have hb := F.1.1.2.1
  intro v1 v2 v3 v4 s0 s1 s2 s3 mc ms u H locs cells slots ls h hW hl hbc hbs
  unfold w_L_law_235 at h
  refine lv_aload_n hx hb dL_law_235 rfl (lv_at hl 3 rfl) ?_
  obtain ⟨c473, b474, h1, h2, h⟩ := h
  have hf1 := bdf hbc h1
  have hf2 := bdf hbs h2
  refine cI (runSW (n := 5) (As := [.ref s3, .int s2, .int s1, .int s0, .ref v3]) (rest := []) F.1 hW (c_L_setStreet F.1.2.2.2 G s3 s2 s1 s0 v3 c473 b474 u _ h) q_134 q_135 q_94 q_136 (by decide +kernel) ⟨Nat.le_of_ble_eq_true rfl, Nat.le_of_ble_eq_true rfl⟩ dL_law_236 rfl hl.1 (Nat.le_of_ble_eq_true rfl) ⟨hf1, hf2⟩) hW (fun r472 u471 h9 H locs hW => ?_)
  replace h := h9
  clear h9
  replace hbc := bdg hbc h1
  replace hbs := bdg hbs h2
  clear h1 h2 hf1 hf2
  refine lv_istore (lv' := [(5, .int r472), (0, .ref b), (1, .ref v1), (2, .ref v2), (3, .ref v3), (4, .int v4)]) hx hb dL_law_239 hl (by decide) rfl (fun ls hl9 => ?_)
  replace hl := hl9
  clear hl9
  refine lv_aload_n hx hb dL_law_241 rfl (lv_at hl 3 rfl) ?_
  refine lv_aload_n hx hb dL_law_242 rfl (lv_at hl 1 rfl) ?_
  refine lv_iload hx hb dL_law_243 (lv_at hl 5 rfl) ?_
  refine lv_iconst (v := (1 : Int32)) hx hb dL_law_245 (by decide) ?_
  refine lv_iadd hx hb dL_law_246 ?_
  refine va_sld hx hb F.2.1 F.2.2.1 F.2.2.2.1 hW.2 h.1 dL_law_247 ?_
  replace h := h.2
  refine lv_aload_n hx hb dL_law_248 rfl (lv_at hl 1 rfl) ?_
  refine lv_iload hx hb dL_law_249 (lv_at hl 5 rfl) ?_
  refine lv_iconst (v := (2 : Int32)) hx hb dL_law_251 (by decide) ?_
  refine lv_iadd hx hb dL_law_252 ?_
  refine va_sld hx hb F.2.1 F.2.2.1 F.2.2.2.1 hW.2 h.1 dL_law_253 ?_
  replace h := h.2
  refine lv_aload_n hx hb dL_law_254 rfl (lv_at hl 1 rfl) ?_
  refine lv_iload hx hb dL_law_255 (lv_at hl 5 rfl) ?_
  refine lv_iconst (v := (3 : Int32)) hx hb dL_law_257 (by decide) ?_
  refine lv_iadd hx hb dL_law_258 ?_
  refine va_sld hx hb F.2.1 F.2.2.1 F.2.2.2.1 hW.2 h.1 dL_law_259 ?_
  replace h := h.2
  refine lv_if_eq (tgt := 267) hx hb dL_law_260 (by decide) (fun hc475 => ?_) (fun hc475 => ?_)
  · have h := h.1 hc475
    refine lv_iconst (v := (0 : Int32)) hx hb dL_law_267 (by decide) ?_
    exact t_L_law_268 F J23 hJ23 v1 v2 v3 v4 r472 (0 : Int32) (xs (v4 + (2 : Int32)).toNatClampNeg) (xs (v4 + (1 : Int32)).toNatClampNeg) v2 (mc - c473) (ms - b474) u471 _ _ _ _ _ h hW (lv_sub hl [1, 2, 3, 4, 5, 0] rfl) hbc hbs
  · have h := h.2 hc475
    refine lv_iconst (v := (1 : Int32)) hx hb dL_law_263 (by decide) ?_
    refine lv_goto (tgt := 268) hx hb dL_law_264 (by decide) ?_
    exact t_L_law_268 F J23 hJ23 v1 v2 v3 v4 r472 (1 : Int32) (xs (v4 + (2 : Int32)).toNatClampNeg) (xs (v4 + (1 : Int32)).toNatClampNeg) v2 (mc - c473) (ms - b474) u471 _ _ _ _ _ h hW (lv_sub hl [1, 2, 3, 4, 5, 0] rfl) hbc hbs
set_option maxHeartbeats 4000000 in
set_option maxRecDepth 100000 in
theorem t_L_law_208 {p : Program} {l : Launch} {e : Env} {s : State} {m : MethodId} {below : List Frame} {meth : Method} {c : Code} {G : Ctx} {b L : Nat} {xs : Nat → Int32} (F : Lx p l s m meth c G b L xs) (J23 : Nat → Nat → Nat → Int32 → Nat → Nat → Mem → Prop) (hJ23 : ∀ (v1 : Nat) (v2 : Nat) (v3 : Nat) (v4 : Int32) (mc ms : Nat) (u : Mem) (H : Heap) (locs : List Loc) (cells slots : Nat) (ls : Array Slot), J23 v1 v2 v3 v4 mc ms u → Wd G u s H locs → lv_has ls 7 [(0, .ref b), (1, .ref v1), (2, .ref v2), (3, .ref v3), (4, .int v4)] → cells + mc = 601024 → slots + ms = 7293034 → W p l e room_1 s m #[Value.ref b] below meth c H locs cells slots (lw_Z below #[Value.ref b] s) (F0 m 23 ls [])) : ∀ (v1 : Nat) (v2 : Nat) (v3 : Nat) (v4 : Int32) (mc ms : Nat) (u : Mem) (H : Heap) (locs : List Loc) (cells slots : Nat) (ls : Array Slot), w_L_law_208 G L xs J23 v1 v2 v3 v4 mc ms u → Wd G u s H locs → lv_has ls 7 [(0, .ref b), (1, .ref v1), (2, .ref v2), (3, .ref v3), (4, .int v4)] → cells + mc = 601024 → slots + ms = 7293034 → W p l e room_1 s m #[Value.ref b] below meth c H locs cells slots (lw_Z below #[Value.ref b] s) (F0 m 208 ls []) := by
  have hx := F.1.1.1
  have hb := F.1.1.2.1
  intro v1 v2 v3 v4 mc ms u H locs cells slots ls h hW hl hbc hbs
  unfold w_L_law_208 at h
  refine lv_aload_n hx hb dL_law_208 rfl (lv_at hl 1 rfl) ?_
  refine lv_aload_n hx hb dL_law_209 rfl (lv_at hl 0 rfl) ?_
  refine lv_iload hx hb dL_law_210 (lv_at hl 4 rfl) ?_
  refine lv_iconst (v := (1 : Int32)) hx hb dL_law_212 (by decide) ?_
  refine lv_iadd hx hb dL_law_213 ?_
  refine va_sld hx hb F.2.1 F.2.2.1 F.2.2.2.1 hW.2 h.1 dL_law_214 ?_
  replace h := h.2
  refine lv_aload_n hx hb dL_law_215 rfl (lv_at hl 0 rfl) ?_
  refine lv_iload hx hb dL_law_216 (lv_at hl 4 rfl) ?_
  refine lv_iconst (v := (2 : Int32)) hx hb dL_law_218 (by decide) ?_
  refine lv_iadd hx hb dL_law_219 ?_
  refine va_sld hx hb F.2.1 F.2.2.1 F.2.2.2.1 hW.2 h.1 dL_law_220 ?_
  replace h := h.2
  refine lv_aload_n hx hb dL_law_221 rfl (lv_at hl 0 rfl) ?_
  refine lv_iload hx hb dL_law_222 (lv_at hl 4 rfl) ?_
  refine lv_iconst (v := (3 : Int32)) hx hb dL_law_224 (by decide) ?_
  refine lv_iadd hx hb dL_law_225 ?_
  refine va_sld hx hb F.2.1 F.2.2.1 F.2.2.2.1 hW.2 h.1 dL_law_226 ?_
  replace h := h.2
  refine lv_if_eq (tgt := 234) hx hb dL_law_227 (by decide) (fun hc476 => ?_) (fun hc476 => ?_)
  · have h := h.1 hc476
    refine lv_iconst (v := (0 : Int32)) hx hb dL_law_234 (by decide) ?_
    exact t_L_law_235 F J23 hJ23 v1 v2 v3 v4 (0 : Int32) (xs (v4 + (2 : Int32)).toNatClampNeg) (xs (v4 + (1 : Int32)).toNatClampNeg) v1 mc ms u _ _ _ _ _ h hW (lv_sub hl [0, 1, 2, 3, 4] rfl) hbc hbs
  · have h := h.2 hc476
    refine lv_iconst (v := (1 : Int32)) hx hb dL_law_230 (by decide) ?_
    refine lv_goto (tgt := 235) hx hb dL_law_231 (by decide) ?_
    exact t_L_law_235 F J23 hJ23 v1 v2 v3 v4 (1 : Int32) (xs (v4 + (2 : Int32)).toNatClampNeg) (xs (v4 + (1 : Int32)).toNatClampNeg) v1 mc ms u _ _ _ _ _ h hW (lv_sub hl [0, 1, 2, 3, 4] rfl) hbc hbs
set_option maxHeartbeats 4000000 in
set_option maxRecDepth 100000 in
theorem t_L_law_381 {p : Program} {l : Launch} {e : Env} {s : State} {m : MethodId} {below : List Frame} {meth : Method} {c : Code} {G : Ctx} {b L : Nat} {xs : Nat → Int32} (F : Lx p l s m meth c G b L xs) (J23 : Nat → Nat → Nat → Int32 → Nat → Nat → Mem → Prop) (hJ23 : ∀ (v1 : Nat) (v2 : Nat) (v3 : Nat) (v4 : Int32) (mc ms : Nat) (u : Mem) (H : Heap) (locs : List Loc) (cells slots : Nat) (ls : Array Slot), J23 v1 v2 v3 v4 mc ms u → Wd G u s H locs → lv_has ls 7 [(0, .ref b), (1, .ref v1), (2, .ref v2), (3, .ref v3), (4, .int v4)] → cells + mc = 601024 → slots + ms = 7293034 → W p l e room_1 s m #[Value.ref b] below meth c H locs cells slots (lw_Z below #[Value.ref b] s) (F0 m 23 ls [])) : ∀ (v1 : Nat) (v2 : Nat) (v3 : Nat) (v4 : Int32) (mc ms : Nat) (u : Mem) (H : Heap) (locs : List Loc) (cells slots : Nat) (ls : Array Slot), w_L_law_381 G L xs J23 v1 v2 v3 v4 mc ms u → Wd G u s H locs → lv_has ls 7 [(0, .ref b), (1, .ref v1), (2, .ref v2), (3, .ref v3), (4, .int v4)] → cells + mc = 601024 → slots + ms = 7293034 → W p l e room_1 s m #[Value.ref b] below meth c H locs cells slots (lw_Z below #[Value.ref b] s) (F0 m 381 ls []) := by
  have hx := F.1.1.1
  have hb := F.1.1.2.1
  intro v1 v2 v3 v4 mc ms u H locs cells slots ls h hW hl hbc hbs
  unfold w_L_law_381 at h
  refine lv_goto (tgt := 1347) hx hb dL_law_381 (by decide) ?_
  exact t_L_law_1347 F J23 hJ23 v1 v2 v3 v4 mc ms u _ _ _ _ _ h hW (lv_sub hl [0, 1, 2, 3, 4] rfl) hbc hbs
set_option maxHeartbeats 4000000 in
set_option maxRecDepth 100000 in
theorem t_L_law_304 {p : Program} {l : Launch} {e : Env} {s : State} {m : MethodId} {below : List Frame} {meth : Method} {c : Code} {G : Ctx} {b L : Nat} {xs : Nat → Int32} (F : Lx p l s m meth c G b L xs) (J23 : Nat → Nat → Nat → Int32 → Nat → Nat → Mem → Prop) (hJ23 : ∀ (v1 : Nat) (v2 : Nat) (v3 : Nat) (v4 : Int32) (mc ms : Nat) (u : Mem) (H : Heap) (locs : List Loc) (cells slots : Nat) (ls : Array Slot), J23 v1 v2 v3 v4 mc ms u → Wd G u s H locs → lv_has ls 7 [(0, .ref b), (1, .ref v1), (2, .ref v2), (3, .ref v3), (4, .int v4)] → cells + mc = 601024 → slots + ms = 7293034 → W p l e room_1 s m #[Value.ref b] below meth c H locs cells slots (lw_Z below #[Value.ref b] s) (F0 m 23 ls [])) : ∀ (v1 : Nat) (v2 : Nat) (v3 : Nat) (v4 : Int32) (mc ms : Nat) (u : Mem) (H : Heap) (locs : List Loc) (cells slots : Nat) (ls : Array Slot), w_L_law_304 G L xs J23 v1 v2 v3 v4 mc ms u → Wd G u s H locs → lv_has ls 7 [(0, .ref b), (1, .ref v1), (2, .ref v2), (3, .ref v3), (4, .int v4)] → cells + mc = 601024 → slots + ms = 7293034 → W p l e room_1 s m #[Value.ref b] below meth c H locs cells slots (lw_Z below #[Value.ref b] s) (F0 m 304 ls []) := by
  have hx := F.1.1.1
  have hb := F.1.1.2.1
  intro v1 v2 v3 v4 mc ms u H locs cells slots ls h hW hl hbc hbs
  unfold w_L_law_304 at h
  refine lv_aload_n hx hb dL_law_304 rfl (lv_at hl 1 rfl) ?_
  refine lv_aload_n hx hb dL_law_305 rfl (lv_at hl 0 rfl) ?_
  refine lv_iload hx hb dL_law_306 (lv_at hl 4 rfl) ?_
  refine lv_iconst (v := (1 : Int32)) hx hb dL_law_308 (by decide) ?_
  refine lv_iadd hx hb dL_law_309 ?_
  refine va_sld hx hb F.2.1 F.2.2.1 F.2.2.2.1 hW.2 h.1 dL_law_310 ?_
  replace h := h.2
  refine lv_aload_n hx hb dL_law_311 rfl (lv_at hl 0 rfl) ?_
  refine lv_iload hx hb dL_law_312 (lv_at hl 4 rfl) ?_
  refine lv_iconst (v := (2 : Int32)) hx hb dL_law_314 (by decide) ?_
  refine lv_iadd hx hb dL_law_315 ?_
  refine va_sld hx hb F.2.1 F.2.2.1 F.2.2.2.1 hW.2 h.1 dL_law_316 ?_
  replace h := h.2
  refine lv_aload_n hx hb dL_law_317 rfl (lv_at hl 0 rfl) ?_
  refine lv_iload hx hb dL_law_318 (lv_at hl 4 rfl) ?_
  refine lv_iconst (v := (3 : Int32)) hx hb dL_law_320 (by decide) ?_
  refine lv_iadd hx hb dL_law_321 ?_
  refine va_sld hx hb F.2.1 F.2.2.1 F.2.2.2.1 hW.2 h.1 dL_law_322 ?_
  replace h := h.2
  refine lv_aload_n hx hb dL_law_323 rfl (lv_at hl 3 rfl) ?_
  obtain ⟨c479, b480, h1, h2, h⟩ := h
  have hf1 := bdf hbc h1
  have hf2 := bdf hbs h2
  refine cI (runSW (n := 5) (As := [.ref v1, .int (xs (v4 + (1 : Int32)).toNatClampNeg), .int (xs (v4 + (2 : Int32)).toNatClampNeg), .int (xs (v4 + (3 : Int32)).toNatClampNeg), .ref v3]) (rest := []) F.1 hW (c_L_vote F.1.2.2.2 G v1 (xs (v4 + (1 : Int32)).toNatClampNeg) (xs (v4 + (2 : Int32)).toNatClampNeg) (xs (v4 + (3 : Int32)).toNatClampNeg) v3 c479 b480 u _ h) q_145 q_146 q_94 q_147 (by decide +kernel) ⟨Nat.le_of_ble_eq_true rfl, Nat.le_of_ble_eq_true rfl⟩ dL_law_324 rfl hl.1 (Nat.le_of_ble_eq_true rfl) ⟨hf1, hf2⟩) hW (fun r478 u477 h9 H locs hW => ?_)
  replace h := h9
  clear h9
  replace hbc := bdg hbc h1
  replace hbs := bdg hbs h2
  clear h1 h2 hf1 hf2
  refine lv_istore (lv' := [(5, .int r478), (0, .ref b), (1, .ref v1), (2, .ref v2), (3, .ref v3), (4, .int v4)]) hx hb dL_law_327 hl (by decide) rfl (fun ls hl9 => ?_)
  replace hl := hl9
  clear hl9
  refine lv_aload_n hx hb dL_law_329 rfl (lv_at hl 3 rfl) ?_
  refine lv_aload_n hx hb dL_law_330 rfl (lv_at hl 1 rfl) ?_
  refine lv_iload hx hb dL_law_331 (lv_at hl 5 rfl) ?_
  refine lv_iconst (v := (1 : Int32)) hx hb dL_law_333 (by decide) ?_
  refine lv_iadd hx hb dL_law_334 ?_
  refine va_sld hx hb F.2.1 F.2.2.1 F.2.2.2.1 hW.2 h.1 dL_law_335 ?_
  replace h := h.2
  refine lv_aload_n hx hb dL_law_336 rfl (lv_at hl 1 rfl) ?_
  refine lv_iload hx hb dL_law_337 (lv_at hl 5 rfl) ?_
  refine lv_iconst (v := (2 : Int32)) hx hb dL_law_339 (by decide) ?_
  refine lv_iadd hx hb dL_law_340 ?_
  refine va_sld hx hb F.2.1 F.2.2.1 F.2.2.2.1 hW.2 h.1 dL_law_341 ?_
  replace h := h.2
  refine lv_aload_n hx hb dL_law_342 rfl (lv_at hl 1 rfl) ?_
  refine lv_iload hx hb dL_law_343 (lv_at hl 5 rfl) ?_
  refine lv_iconst (v := (3 : Int32)) hx hb dL_law_345 (by decide) ?_
  refine lv_iadd hx hb dL_law_346 ?_
  refine va_sld hx hb F.2.1 F.2.2.1 F.2.2.2.1 hW.2 h.1 dL_law_347 ?_
  replace h := h.2
  obtain ⟨hob, h⟩ := h
  refine cI (runV (n := 3) (As := [.int (xs (v4 + (1 : Int32)).toNatClampNeg), .int (xs (v4 + (2 : Int32)).toNatClampNeg), .int (xs (v4 + (3 : Int32)).toNatClampNeg)]) (rest := []) F.1 hW (c_X6_vote F.1.2.2.2 G v2 (xs (v4 + (1 : Int32)).toNatClampNeg) (xs (v4 + (2 : Int32)).toNatClampNeg) (xs (v4 + (3 : Int32)).toNatClampNeg) u477 _ h) hob (ci := 7) rfl q_167 q_168 q_169 q_5 q_170 rfl (by decide +kernel) ⟨Nat.le_of_ble_eq_true rfl, Nat.le_of_ble_eq_true rfl⟩ dL_law_348 rfl hl.1 (Nat.le_of_ble_eq_true rfl) ⟨Nat.le.intro hbc, Nat.le.intro hbs⟩) hW (fun r482 u481 h9 H locs hW => ?_)
  replace h := h9
  clear h9
  refine lv_istore (lv' := [(6, .int r482), (5, .int r478), (0, .ref b), (1, .ref v1), (2, .ref v2), (3, .ref v3), (4, .int v4)]) hx hb dL_law_351 hl (by decide) rfl (fun ls hl9 => ?_)
  replace hl := hl9
  clear hl9
  refine lv_aload_n hx hb dL_law_353 rfl (lv_at hl 4 rfl) ?_
  obtain ⟨hob, h⟩ := h
  refine cI (runV (n := 0) (As := []) (rest := []) F.1 hW (c_X6_thrown F.1.2.2.2 G v2 u481 _ h) hob (ci := 7) rfl q_130 q_131 q_132 q_5 q_133 rfl (by decide +kernel) ⟨Nat.le_of_ble_eq_true rfl, Nat.le_of_ble_eq_true rfl⟩ dL_law_354 rfl hl.1 (Nat.le_of_ble_eq_true rfl) ⟨Nat.le.intro hbc, Nat.le.intro hbs⟩) hW (fun r484 u483 h9 H locs hW => ?_)
  replace h := h9
  clear h9
  refine lv_iload hx hb dL_law_357 (lv_at hl 1 rfl) ?_
  refine lv_icmp_eq (tgt := 364) hx hb dL_law_359 (by decide) (fun hc485 => ?_) (fun hc485 => ?_)
  · have h := h.1 hc485
    refine lv_iload hx hb dL_law_364 (lv_at hl 1 rfl) ?_
    refine lv_if_ne (tgt := 381) hx hb dL_law_366 (by decide) (fun hc486 => ?_) (fun hc486 => ?_)
    · have h := h.2 hc486
      exact t_L_law_381 F J23 hJ23 v1 v2 v3 v4 (mc - c479) (ms - b480) u483 _ _ _ _ _ h hW (lv_sub hl [2, 3, 4, 5, 6] rfl) hbc hbs
    · have h := h.1 hc486
      refine lv_aload_n hx hb dL_law_369 rfl (lv_at hl 5 rfl) ?_
      refine lv_iconst (v := (0 : Int32)) hx hb dL_law_370 (by decide) ?_
      refine rJald F.1 hW h.1 h.2.1 dL_law_371 ?_
      replace h := h.2.2
      refine lv_iload hx hb dL_law_372 (lv_at hl 0 rfl) ?_
      refine lv_i2l hx hb dL_law_374 rfl ?_
      refine W.lcmp hx hb dL_law_375 ?_
      refine lv_if_eq (tgt := 381) hx hb dL_law_376 (by decide) (fun hc487 => ?_) (fun hc487 => ?_)
      · have h := h.1 hc487
        exact t_L_law_381 F J23 hJ23 v1 v2 v3 v4 (mc - c479) (ms - b480) u483 _ _ _ _ _ h hW (lv_sub hl [2, 3, 4, 5, 6] rfl) hbc hbs
      · have h := h.2 hc487
        refine lv_iconst (v := (0 : Int32)) hx hb dL_law_379 (by decide) ?_
        exact h.elim
  · have h := h.2 hc485
    refine lv_iconst (v := (0 : Int32)) hx hb dL_law_362 (by decide) ?_
    exact h.elim
set_option maxHeartbeats 4000000 in
set_option maxRecDepth 100000 in
theorem t_L_law_449 {p : Program} {l : Launch} {e : Env} {s : State} {m : MethodId} {below : List Frame} {meth : Method} {c : Code} {G : Ctx} {b L : Nat} {xs : Nat → Int32} (F : Lx p l s m meth c G b L xs) (J23 : Nat → Nat → Nat → Int32 → Nat → Nat → Mem → Prop) (hJ23 : ∀ (v1 : Nat) (v2 : Nat) (v3 : Nat) (v4 : Int32) (mc ms : Nat) (u : Mem) (H : Heap) (locs : List Loc) (cells slots : Nat) (ls : Array Slot), J23 v1 v2 v3 v4 mc ms u → Wd G u s H locs → lv_has ls 7 [(0, .ref b), (1, .ref v1), (2, .ref v2), (3, .ref v3), (4, .int v4)] → cells + mc = 601024 → slots + ms = 7293034 → W p l e room_1 s m #[Value.ref b] below meth c H locs cells slots (lw_Z below #[Value.ref b] s) (F0 m 23 ls [])) : ∀ (v1 : Nat) (v2 : Nat) (v3 : Nat) (v4 : Int32) (mc ms : Nat) (u : Mem) (H : Heap) (locs : List Loc) (cells slots : Nat) (ls : Array Slot), w_L_law_449 G L xs J23 v1 v2 v3 v4 mc ms u → Wd G u s H locs → lv_has ls 7 [(0, .ref b), (1, .ref v1), (2, .ref v2), (3, .ref v3), (4, .int v4)] → cells + mc = 601024 → slots + ms = 7293034 → W p l e room_1 s m #[Value.ref b] below meth c H locs cells slots (lw_Z below #[Value.ref b] s) (F0 m 449 ls []) := by
  have hx := F.1.1.1
  have hb := F.1.1.2.1
  intro v1 v2 v3 v4 mc ms u H locs cells slots ls h hW hl hbc hbs
  unfold w_L_law_449 at h
  refine lv_goto (tgt := 1347) hx hb dL_law_449 (by decide) ?_
  exact t_L_law_1347 F J23 hJ23 v1 v2 v3 v4 mc ms u _ _ _ _ _ h hW (lv_sub hl [0, 1, 2, 3, 4] rfl) hbc hbs
set_option maxHeartbeats 4000000 in
set_option maxRecDepth 100000 in
theorem t_L_law_384 {p : Program} {l : Launch} {e : Env} {s : State} {m : MethodId} {below : List Frame} {meth : Method} {c : Code} {G : Ctx} {b L : Nat} {xs : Nat → Int32} (F : Lx p l s m meth c G b L xs) (J23 : Nat → Nat → Nat → Int32 → Nat → Nat → Mem → Prop) (hJ23 : ∀ (v1 : Nat) (v2 : Nat) (v3 : Nat) (v4 : Int32) (mc ms : Nat) (u : Mem) (H : Heap) (locs : List Loc) (cells slots : Nat) (ls : Array Slot), J23 v1 v2 v3 v4 mc ms u → Wd G u s H locs → lv_has ls 7 [(0, .ref b), (1, .ref v1), (2, .ref v2), (3, .ref v3), (4, .int v4)] → cells + mc = 601024 → slots + ms = 7293034 → W p l e room_1 s m #[Value.ref b] below meth c H locs cells slots (lw_Z below #[Value.ref b] s) (F0 m 23 ls [])) : ∀ (v1 : Nat) (v2 : Nat) (v3 : Nat) (v4 : Int32) (mc ms : Nat) (u : Mem) (H : Heap) (locs : List Loc) (cells slots : Nat) (ls : Array Slot), w_L_law_384 G L xs J23 v1 v2 v3 v4 mc ms u → Wd G u s H locs → lv_has ls 7 [(0, .ref b), (1, .ref v1), (2, .ref v2), (3, .ref v3), (4, .int v4)] → cells + mc = 601024 → slots + ms = 7293034 → W p l e room_1 s m #[Value.ref b] below meth c H locs cells slots (lw_Z below #[Value.ref b] s) (F0 m 384 ls []) := by
  have hx := F.1.1.1
  have hb := F.1.1.2.1
  intro v1 v2 v3 v4 mc ms u H locs cells slots ls h hW hl hbc hbs
  unfold w_L_law_384 at h
  refine lv_aload_n hx hb dL_law_384 rfl (lv_at hl 1 rfl) ?_
  refine lv_aload_n hx hb dL_law_385 rfl (lv_at hl 0 rfl) ?_
  refine lv_iload hx hb dL_law_386 (lv_at hl 4 rfl) ?_
  refine lv_iconst (v := (1 : Int32)) hx hb dL_law_388 (by decide) ?_
  refine lv_iadd hx hb dL_law_389 ?_
  refine va_sld hx hb F.2.1 F.2.2.1 F.2.2.2.1 hW.2 h.1 dL_law_390 ?_
  replace h := h.2
  refine lv_aload_n hx hb dL_law_391 rfl (lv_at hl 0 rfl) ?_
  refine lv_iload hx hb dL_law_392 (lv_at hl 4 rfl) ?_
  refine lv_iconst (v := (2 : Int32)) hx hb dL_law_394 (by decide) ?_
  refine lv_iadd hx hb dL_law_395 ?_
  refine va_sld hx hb F.2.1 F.2.2.1 F.2.2.2.1 hW.2 h.1 dL_law_396 ?_
  replace h := h.2
  refine lv_aload_n hx hb dL_law_397 rfl (lv_at hl 3 rfl) ?_
  obtain ⟨c490, b491, h1, h2, h⟩ := h
  have hf1 := bdf hbc h1
  have hf2 := bdf hbs h2
  refine cI (runSW (n := 4) (As := [.ref v1, .int (xs (v4 + (1 : Int32)).toNatClampNeg), .int (xs (v4 + (2 : Int32)).toNatClampNeg), .ref v3]) (rest := []) F.1 hW (c_L_place F.1.2.2.2 G v1 (xs (v4 + (1 : Int32)).toNatClampNeg) (xs (v4 + (2 : Int32)).toNatClampNeg) v3 c490 b491 u _ h) q_175 q_176 q_94 q_177 (by decide +kernel) ⟨Nat.le_of_ble_eq_true rfl, Nat.le_of_ble_eq_true rfl⟩ dL_law_398 rfl hl.1 (Nat.le_of_ble_eq_true rfl) ⟨hf1, hf2⟩) hW (fun r489 u488 h9 H locs hW => ?_)
  replace h := h9
  clear h9
  replace hbc := bdg hbc h1
  replace hbs := bdg hbs h2
  clear h1 h2 hf1 hf2
  refine lv_istore (lv' := [(5, .int r489), (0, .ref b), (1, .ref v1), (2, .ref v2), (3, .ref v3), (4, .int v4)]) hx hb dL_law_401 hl (by decide) rfl (fun ls hl9 => ?_)
  replace hl := hl9
  clear hl9
  refine lv_aload_n hx hb dL_law_403 rfl (lv_at hl 3 rfl) ?_
  refine lv_aload_n hx hb dL_law_404 rfl (lv_at hl 1 rfl) ?_
  refine lv_iload hx hb dL_law_405 (lv_at hl 5 rfl) ?_
  refine lv_iconst (v := (1 : Int32)) hx hb dL_law_407 (by decide) ?_
  refine lv_iadd hx hb dL_law_408 ?_
  refine va_sld hx hb F.2.1 F.2.2.1 F.2.2.2.1 hW.2 h.1 dL_law_409 ?_
  replace h := h.2
  refine lv_aload_n hx hb dL_law_410 rfl (lv_at hl 1 rfl) ?_
  refine lv_iload hx hb dL_law_411 (lv_at hl 5 rfl) ?_
  refine lv_iconst (v := (2 : Int32)) hx hb dL_law_413 (by decide) ?_
  refine lv_iadd hx hb dL_law_414 ?_
  refine va_sld hx hb F.2.1 F.2.2.1 F.2.2.2.1 hW.2 h.1 dL_law_415 ?_
  replace h := h.2
  obtain ⟨hob, h⟩ := h
  refine cI (runV (n := 2) (As := [.int (xs (v4 + (1 : Int32)).toNatClampNeg), .int (xs (v4 + (2 : Int32)).toNatClampNeg)]) (rest := []) F.1 hW (c_X6_place F.1.2.2.2 G v2 (xs (v4 + (1 : Int32)).toNatClampNeg) (xs (v4 + (2 : Int32)).toNatClampNeg) u488 _ h) hob (ci := 7) rfl q_189 q_190 q_191 q_5 q_192 rfl (by decide +kernel) ⟨Nat.le_of_ble_eq_true rfl, Nat.le_of_ble_eq_true rfl⟩ dL_law_416 rfl hl.1 (Nat.le_of_ble_eq_true rfl) ⟨Nat.le.intro hbc, Nat.le.intro hbs⟩) hW (fun r493 u492 h9 H locs hW => ?_)
  replace h := h9
  clear h9
  refine lv_istore (lv' := [(6, .int r493), (5, .int r489), (0, .ref b), (1, .ref v1), (2, .ref v2), (3, .ref v3), (4, .int v4)]) hx hb dL_law_419 hl (by decide) rfl (fun ls hl9 => ?_)
  replace hl := hl9
  clear hl9
  refine lv_aload_n hx hb dL_law_421 rfl (lv_at hl 4 rfl) ?_
  obtain ⟨hob, h⟩ := h
  refine cI (runV (n := 0) (As := []) (rest := []) F.1 hW (c_X6_thrown F.1.2.2.2 G v2 u492 _ h) hob (ci := 7) rfl q_130 q_131 q_132 q_5 q_133 rfl (by decide +kernel) ⟨Nat.le_of_ble_eq_true rfl, Nat.le_of_ble_eq_true rfl⟩ dL_law_422 rfl hl.1 (Nat.le_of_ble_eq_true rfl) ⟨Nat.le.intro hbc, Nat.le.intro hbs⟩) hW (fun r495 u494 h9 H locs hW => ?_)
  replace h := h9
  clear h9
  refine lv_iload hx hb dL_law_425 (lv_at hl 1 rfl) ?_
  refine lv_icmp_eq (tgt := 432) hx hb dL_law_427 (by decide) (fun hc496 => ?_) (fun hc496 => ?_)
  · have h := h.1 hc496
    refine lv_iload hx hb dL_law_432 (lv_at hl 1 rfl) ?_
    refine lv_if_ne (tgt := 449) hx hb dL_law_434 (by decide) (fun hc497 => ?_) (fun hc497 => ?_)
    · have h := h.2 hc497
      exact t_L_law_449 F J23 hJ23 v1 v2 v3 v4 (mc - c490) (ms - b491) u494 _ _ _ _ _ h hW (lv_sub hl [2, 3, 4, 5, 6] rfl) hbc hbs
    · have h := h.1 hc497
      refine lv_aload_n hx hb dL_law_437 rfl (lv_at hl 5 rfl) ?_
      refine lv_iconst (v := (0 : Int32)) hx hb dL_law_438 (by decide) ?_
      refine rJald F.1 hW h.1 h.2.1 dL_law_439 ?_
      replace h := h.2.2
      refine lv_iload hx hb dL_law_440 (lv_at hl 0 rfl) ?_
      refine lv_i2l hx hb dL_law_442 rfl ?_
      refine W.lcmp hx hb dL_law_443 ?_
      refine lv_if_eq (tgt := 449) hx hb dL_law_444 (by decide) (fun hc498 => ?_) (fun hc498 => ?_)
      · have h := h.1 hc498
        exact t_L_law_449 F J23 hJ23 v1 v2 v3 v4 (mc - c490) (ms - b491) u494 _ _ _ _ _ h hW (lv_sub hl [2, 3, 4, 5, 6] rfl) hbc hbs
      · have h := h.2 hc498
        refine lv_iconst (v := (0 : Int32)) hx hb dL_law_447 (by decide) ?_
        exact h.elim
  · have h := h.2 hc496
    refine lv_iconst (v := (0 : Int32)) hx hb dL_law_430 (by decide) ?_
    exact h.elim
set_option maxHeartbeats 4000000 in
set_option maxRecDepth 100000 in
theorem t_L_law_517 {p : Program} {l : Launch} {e : Env} {s : State} {m : MethodId} {below : List Frame} {meth : Method} {c : Code} {G : Ctx} {b L : Nat} {xs : Nat → Int32} (F : Lx p l s m meth c G b L xs) (J23 : Nat → Nat → Nat → Int32 → Nat → Nat → Mem → Prop) (hJ23 : ∀ (v1 : Nat) (v2 : Nat) (v3 : Nat) (v4 : Int32) (mc ms : Nat) (u : Mem) (H : Heap) (locs : List Loc) (cells slots : Nat) (ls : Array Slot), J23 v1 v2 v3 v4 mc ms u → Wd G u s H locs → lv_has ls 7 [(0, .ref b), (1, .ref v1), (2, .ref v2), (3, .ref v3), (4, .int v4)] → cells + mc = 601024 → slots + ms = 7293034 → W p l e room_1 s m #[Value.ref b] below meth c H locs cells slots (lw_Z below #[Value.ref b] s) (F0 m 23 ls [])) : ∀ (v1 : Nat) (v2 : Nat) (v3 : Nat) (v4 : Int32) (mc ms : Nat) (u : Mem) (H : Heap) (locs : List Loc) (cells slots : Nat) (ls : Array Slot), w_L_law_517 G L xs J23 v1 v2 v3 v4 mc ms u → Wd G u s H locs → lv_has ls 7 [(0, .ref b), (1, .ref v1), (2, .ref v2), (3, .ref v3), (4, .int v4)] → cells + mc = 601024 → slots + ms = 7293034 → W p l e room_1 s m #[Value.ref b] below meth c H locs cells slots (lw_Z below #[Value.ref b] s) (F0 m 517 ls []) := by
  have hx := F.1.1.1
  have hb := F.1.1.2.1
  intro v1 v2 v3 v4 mc ms u H locs cells slots ls h hW hl hbc hbs
  unfold w_L_law_517 at h
  refine lv_goto (tgt := 1347) hx hb dL_law_517 (by decide) ?_
  exact t_L_law_1347 F J23 hJ23 v1 v2 v3 v4 mc ms u _ _ _ _ _ h hW (lv_sub hl [0, 1, 2, 3, 4] rfl) hbc hbs
set_option maxHeartbeats 4000000 in
set_option maxRecDepth 100000 in
theorem t_L_law_452 {p : Program} {l : Launch} {e : Env} {s : State} {m : MethodId} {below : List Frame} {meth : Method} {c : Code} {G : Ctx} {b L : Nat} {xs : Nat → Int32} (F : Lx p l s m meth c G b L xs) (J23 : Nat → Nat → Nat → Int32 → Nat → Nat → Mem → Prop) (hJ23 : ∀ (v1 : Nat) (v2 : Nat) (v3 : Nat) (v4 : Int32) (mc ms : Nat) (u : Mem) (H : Heap) (locs : List Loc) (cells slots : Nat) (ls : Array Slot), J23 v1 v2 v3 v4 mc ms u → Wd G u s H locs → lv_has ls 7 [(0, .ref b), (1, .ref v1), (2, .ref v2), (3, .ref v3), (4, .int v4)] → cells + mc = 601024 → slots + ms = 7293034 → W p l e room_1 s m #[Value.ref b] below meth c H locs cells slots (lw_Z below #[Value.ref b] s) (F0 m 23 ls [])) : ∀ (v1 : Nat) (v2 : Nat) (v3 : Nat) (v4 : Int32) (mc ms : Nat) (u : Mem) (H : Heap) (locs : List Loc) (cells slots : Nat) (ls : Array Slot), w_L_law_452 G L xs J23 v1 v2 v3 v4 mc ms u → Wd G u s H locs → lv_has ls 7 [(0, .ref b), (1, .ref v1), (2, .ref v2), (3, .ref v3), (4, .int v4)] → cells + mc = 601024 → slots + ms = 7293034 → W p l e room_1 s m #[Value.ref b] below meth c H locs cells slots (lw_Z below #[Value.ref b] s) (F0 m 452 ls []) := by
  have hx := F.1.1.1
  have hb := F.1.1.2.1
  intro v1 v2 v3 v4 mc ms u H locs cells slots ls h hW hl hbc hbs
  unfold w_L_law_452 at h
  refine lv_aload_n hx hb dL_law_452 rfl (lv_at hl 1 rfl) ?_
  refine lv_aload_n hx hb dL_law_453 rfl (lv_at hl 0 rfl) ?_
  refine lv_iload hx hb dL_law_454 (lv_at hl 4 rfl) ?_
  refine lv_iconst (v := (1 : Int32)) hx hb dL_law_456 (by decide) ?_
  refine lv_iadd hx hb dL_law_457 ?_
  refine va_sld hx hb F.2.1 F.2.2.1 F.2.2.2.1 hW.2 h.1 dL_law_458 ?_
  replace h := h.2
  refine lv_aload_n hx hb dL_law_459 rfl (lv_at hl 0 rfl) ?_
  refine lv_iload hx hb dL_law_460 (lv_at hl 4 rfl) ?_
  refine lv_iconst (v := (2 : Int32)) hx hb dL_law_462 (by decide) ?_
  refine lv_iadd hx hb dL_law_463 ?_
  refine va_sld hx hb F.2.1 F.2.2.1 F.2.2.2.1 hW.2 h.1 dL_law_464 ?_
  replace h := h.2
  refine lv_aload_n hx hb dL_law_465 rfl (lv_at hl 3 rfl) ?_
  obtain ⟨c501, b502, h1, h2, h⟩ := h
  have hf1 := bdf hbc h1
  have hf2 := bdf hbs h2
  refine cI (runSW (n := 4) (As := [.ref v1, .int (xs (v4 + (1 : Int32)).toNatClampNeg), .int (xs (v4 + (2 : Int32)).toNatClampNeg), .ref v3]) (rest := []) F.1 hW (c_L_ask F.1.2.2.2 G v1 (xs (v4 + (1 : Int32)).toNatClampNeg) (xs (v4 + (2 : Int32)).toNatClampNeg) v3 c501 b502 u _ h) q_196 q_197 q_94 q_198 (by decide +kernel) ⟨Nat.le_of_ble_eq_true rfl, Nat.le_of_ble_eq_true rfl⟩ dL_law_466 rfl hl.1 (Nat.le_of_ble_eq_true rfl) ⟨hf1, hf2⟩) hW (fun r500 u499 h9 H locs hW => ?_)
  replace h := h9
  clear h9
  replace hbc := bdg hbc h1
  replace hbs := bdg hbs h2
  clear h1 h2 hf1 hf2
  refine lv_istore (lv' := [(5, .int r500), (0, .ref b), (1, .ref v1), (2, .ref v2), (3, .ref v3), (4, .int v4)]) hx hb dL_law_469 hl (by decide) rfl (fun ls hl9 => ?_)
  replace hl := hl9
  clear hl9
  refine lv_aload_n hx hb dL_law_471 rfl (lv_at hl 3 rfl) ?_
  refine lv_aload_n hx hb dL_law_472 rfl (lv_at hl 1 rfl) ?_
  refine lv_iload hx hb dL_law_473 (lv_at hl 5 rfl) ?_
  refine lv_iconst (v := (1 : Int32)) hx hb dL_law_475 (by decide) ?_
  refine lv_iadd hx hb dL_law_476 ?_
  refine va_sld hx hb F.2.1 F.2.2.1 F.2.2.2.1 hW.2 h.1 dL_law_477 ?_
  replace h := h.2
  refine lv_aload_n hx hb dL_law_478 rfl (lv_at hl 1 rfl) ?_
  refine lv_iload hx hb dL_law_479 (lv_at hl 5 rfl) ?_
  refine lv_iconst (v := (2 : Int32)) hx hb dL_law_481 (by decide) ?_
  refine lv_iadd hx hb dL_law_482 ?_
  refine va_sld hx hb F.2.1 F.2.2.1 F.2.2.2.1 hW.2 h.1 dL_law_483 ?_
  replace h := h.2
  obtain ⟨hob, h⟩ := h
  refine cI (runV (n := 2) (As := [.int (xs (v4 + (1 : Int32)).toNatClampNeg), .int (xs (v4 + (2 : Int32)).toNatClampNeg)]) (rest := []) F.1 hW (c_X6_ask F.1.2.2.2 G v2 (xs (v4 + (1 : Int32)).toNatClampNeg) (xs (v4 + (2 : Int32)).toNatClampNeg) u499 _ h) hob (ci := 7) rfl q_269 q_270 q_271 q_5 q_272 rfl (by decide +kernel) ⟨Nat.le_of_ble_eq_true rfl, Nat.le_of_ble_eq_true rfl⟩ dL_law_484 rfl hl.1 (Nat.le_of_ble_eq_true rfl) ⟨Nat.le.intro hbc, Nat.le.intro hbs⟩) hW (fun r504 u503 h9 H locs hW => ?_)
  replace h := h9
  clear h9
  refine lv_istore (lv' := [(6, .int r504), (5, .int r500), (0, .ref b), (1, .ref v1), (2, .ref v2), (3, .ref v3), (4, .int v4)]) hx hb dL_law_487 hl (by decide) rfl (fun ls hl9 => ?_)
  replace hl := hl9
  clear hl9
  refine lv_aload_n hx hb dL_law_489 rfl (lv_at hl 4 rfl) ?_
  obtain ⟨hob, h⟩ := h
  refine cI (runV (n := 0) (As := []) (rest := []) F.1 hW (c_X6_thrown F.1.2.2.2 G v2 u503 _ h) hob (ci := 7) rfl q_130 q_131 q_132 q_5 q_133 rfl (by decide +kernel) ⟨Nat.le_of_ble_eq_true rfl, Nat.le_of_ble_eq_true rfl⟩ dL_law_490 rfl hl.1 (Nat.le_of_ble_eq_true rfl) ⟨Nat.le.intro hbc, Nat.le.intro hbs⟩) hW (fun r506 u505 h9 H locs hW => ?_)
  replace h := h9
  clear h9
  refine lv_iload hx hb dL_law_493 (lv_at hl 1 rfl) ?_
  refine lv_icmp_eq (tgt := 500) hx hb dL_law_495 (by decide) (fun hc507 => ?_) (fun hc507 => ?_)
  · have h := h.1 hc507
    refine lv_iload hx hb dL_law_500 (lv_at hl 1 rfl) ?_
    refine lv_if_ne (tgt := 517) hx hb dL_law_502 (by decide) (fun hc508 => ?_) (fun hc508 => ?_)
    · have h := h.2 hc508
      exact t_L_law_517 F J23 hJ23 v1 v2 v3 v4 (mc - c501) (ms - b502) u505 _ _ _ _ _ h hW (lv_sub hl [2, 3, 4, 5, 6] rfl) hbc hbs
    · have h := h.1 hc508
      refine lv_aload_n hx hb dL_law_505 rfl (lv_at hl 5 rfl) ?_
      refine lv_iconst (v := (0 : Int32)) hx hb dL_law_506 (by decide) ?_
      refine rJald F.1 hW h.1 h.2.1 dL_law_507 ?_
      replace h := h.2.2
      refine lv_iload hx hb dL_law_508 (lv_at hl 0 rfl) ?_
      refine lv_i2l hx hb dL_law_510 rfl ?_
      refine W.lcmp hx hb dL_law_511 ?_
      refine lv_if_eq (tgt := 517) hx hb dL_law_512 (by decide) (fun hc509 => ?_) (fun hc509 => ?_)
      · have h := h.1 hc509
        exact t_L_law_517 F J23 hJ23 v1 v2 v3 v4 (mc - c501) (ms - b502) u505 _ _ _ _ _ h hW (lv_sub hl [2, 3, 4, 5, 6] rfl) hbc hbs
      · have h := h.2 hc509
        refine lv_iconst (v := (0 : Int32)) hx hb dL_law_515 (by decide) ?_
        exact h.elim
  · have h := h.2 hc507
    refine lv_iconst (v := (0 : Int32)) hx hb dL_law_498 (by decide) ?_
    exact h.elim
set_option maxHeartbeats 4000000 in
set_option maxRecDepth 100000 in
theorem t_L_law_573 {p : Program} {l : Launch} {e : Env} {s : State} {m : MethodId} {below : List Frame} {meth : Method} {c : Code} {G : Ctx} {b L : Nat} {xs : Nat → Int32} (F : Lx p l s m meth c G b L xs) (J23 : Nat → Nat → Nat → Int32 → Nat → Nat → Mem → Prop) (hJ23 : ∀ (v1 : Nat) (v2 : Nat) (v3 : Nat) (v4 : Int32) (mc ms : Nat) (u : Mem) (H : Heap) (locs : List Loc) (cells slots : Nat) (ls : Array Slot), J23 v1 v2 v3 v4 mc ms u → Wd G u s H locs → lv_has ls 7 [(0, .ref b), (1, .ref v1), (2, .ref v2), (3, .ref v3), (4, .int v4)] → cells + mc = 601024 → slots + ms = 7293034 → W p l e room_1 s m #[Value.ref b] below meth c H locs cells slots (lw_Z below #[Value.ref b] s) (F0 m 23 ls [])) : ∀ (v1 : Nat) (v2 : Nat) (v3 : Nat) (v4 : Int32) (mc ms : Nat) (u : Mem) (H : Heap) (locs : List Loc) (cells slots : Nat) (ls : Array Slot), w_L_law_573 G L xs J23 v1 v2 v3 v4 mc ms u → Wd G u s H locs → lv_has ls 7 [(0, .ref b), (1, .ref v1), (2, .ref v2), (3, .ref v3), (4, .int v4)] → cells + mc = 601024 → slots + ms = 7293034 → W p l e room_1 s m #[Value.ref b] below meth c H locs cells slots (lw_Z below #[Value.ref b] s) (F0 m 573 ls []) := by
  have hx := F.1.1.1
  have hb := F.1.1.2.1
  intro v1 v2 v3 v4 mc ms u H locs cells slots ls h hW hl hbc hbs
  unfold w_L_law_573 at h
  refine lv_goto (tgt := 1347) hx hb dL_law_573 (by decide) ?_
  exact t_L_law_1347 F J23 hJ23 v1 v2 v3 v4 mc ms u _ _ _ _ _ h hW (lv_sub hl [0, 1, 2, 3, 4] rfl) hbc hbs
set_option maxHeartbeats 4000000 in
set_option maxRecDepth 100000 in
theorem t_L_law_520 {p : Program} {l : Launch} {e : Env} {s : State} {m : MethodId} {below : List Frame} {meth : Method} {c : Code} {G : Ctx} {b L : Nat} {xs : Nat → Int32} (F : Lx p l s m meth c G b L xs) (J23 : Nat → Nat → Nat → Int32 → Nat → Nat → Mem → Prop) (hJ23 : ∀ (v1 : Nat) (v2 : Nat) (v3 : Nat) (v4 : Int32) (mc ms : Nat) (u : Mem) (H : Heap) (locs : List Loc) (cells slots : Nat) (ls : Array Slot), J23 v1 v2 v3 v4 mc ms u → Wd G u s H locs → lv_has ls 7 [(0, .ref b), (1, .ref v1), (2, .ref v2), (3, .ref v3), (4, .int v4)] → cells + mc = 601024 → slots + ms = 7293034 → W p l e room_1 s m #[Value.ref b] below meth c H locs cells slots (lw_Z below #[Value.ref b] s) (F0 m 23 ls [])) : ∀ (v1 : Nat) (v2 : Nat) (v3 : Nat) (v4 : Int32) (mc ms : Nat) (u : Mem) (H : Heap) (locs : List Loc) (cells slots : Nat) (ls : Array Slot), w_L_law_520 G L xs J23 v1 v2 v3 v4 mc ms u → Wd G u s H locs → lv_has ls 7 [(0, .ref b), (1, .ref v1), (2, .ref v2), (3, .ref v3), (4, .int v4)] → cells + mc = 601024 → slots + ms = 7293034 → W p l e room_1 s m #[Value.ref b] below meth c H locs cells slots (lw_Z below #[Value.ref b] s) (F0 m 520 ls []) := by
  have hx := F.1.1.1
  have hb := F.1.1.2.1
  intro v1 v2 v3 v4 mc ms u H locs cells slots ls h hW hl hbc hbs
  unfold w_L_law_520 at h
  refine lv_aload_n hx hb dL_law_520 rfl (lv_at hl 1 rfl) ?_
  refine lv_aload_n hx hb dL_law_521 rfl (lv_at hl 0 rfl) ?_
  refine lv_iload hx hb dL_law_522 (lv_at hl 4 rfl) ?_
  refine lv_iconst (v := (1 : Int32)) hx hb dL_law_524 (by decide) ?_
  refine lv_iadd hx hb dL_law_525 ?_
  refine va_sld hx hb F.2.1 F.2.2.1 F.2.2.2.1 hW.2 h.1 dL_law_526 ?_
  replace h := h.2
  refine lv_aload_n hx hb dL_law_527 rfl (lv_at hl 3 rfl) ?_
  obtain ⟨c512, b513, h1, h2, h⟩ := h
  have hf1 := bdf hbc h1
  have hf2 := bdf hbs h2
  refine cI (runSW (n := 3) (As := [.ref v1, .int (xs (v4 + (1 : Int32)).toNatClampNeg), .ref v3]) (rest := []) F.1 hW (c_L_pass F.1.2.2.2 G v1 (xs (v4 + (1 : Int32)).toNatClampNeg) v3 c512 b513 u _ h) q_274 q_275 q_94 q_276 (by decide +kernel) ⟨Nat.le_of_ble_eq_true rfl, Nat.le_of_ble_eq_true rfl⟩ dL_law_528 rfl hl.1 (Nat.le_of_ble_eq_true rfl) ⟨hf1, hf2⟩) hW (fun r511 u510 h9 H locs hW => ?_)
  replace h := h9
  clear h9
  replace hbc := bdg hbc h1
  replace hbs := bdg hbs h2
  clear h1 h2 hf1 hf2
  refine lv_istore (lv' := [(5, .int r511), (0, .ref b), (1, .ref v1), (2, .ref v2), (3, .ref v3), (4, .int v4)]) hx hb dL_law_531 hl (by decide) rfl (fun ls hl9 => ?_)
  replace hl := hl9
  clear hl9
  refine lv_aload_n hx hb dL_law_533 rfl (lv_at hl 3 rfl) ?_
  refine lv_aload_n hx hb dL_law_534 rfl (lv_at hl 1 rfl) ?_
  refine lv_iload hx hb dL_law_535 (lv_at hl 5 rfl) ?_
  refine lv_iconst (v := (1 : Int32)) hx hb dL_law_537 (by decide) ?_
  refine lv_iadd hx hb dL_law_538 ?_
  refine va_sld hx hb F.2.1 F.2.2.1 F.2.2.2.1 hW.2 h.1 dL_law_539 ?_
  replace h := h.2
  obtain ⟨hob, h⟩ := h
  refine cI (runV (n := 1) (As := [.int (xs (v4 + (1 : Int32)).toNatClampNeg)]) (rest := []) F.1 hW (c_X6_pass F.1.2.2.2 G v2 (xs (v4 + (1 : Int32)).toNatClampNeg) u510 _ h) hob (ci := 7) rfl q_364 q_365 q_366 q_5 q_367 rfl (by decide +kernel) ⟨Nat.le_of_ble_eq_true rfl, Nat.le_of_ble_eq_true rfl⟩ dL_law_540 rfl hl.1 (Nat.le_of_ble_eq_true rfl) ⟨Nat.le.intro hbc, Nat.le.intro hbs⟩) hW (fun r515 u514 h9 H locs hW => ?_)
  replace h := h9
  clear h9
  refine lv_istore (lv' := [(6, .int r515), (5, .int r511), (0, .ref b), (1, .ref v1), (2, .ref v2), (3, .ref v3), (4, .int v4)]) hx hb dL_law_543 hl (by decide) rfl (fun ls hl9 => ?_)
  replace hl := hl9
  clear hl9
  refine lv_aload_n hx hb dL_law_545 rfl (lv_at hl 4 rfl) ?_
  obtain ⟨hob, h⟩ := h
  refine cI (runV (n := 0) (As := []) (rest := []) F.1 hW (c_X6_thrown F.1.2.2.2 G v2 u514 _ h) hob (ci := 7) rfl q_130 q_131 q_132 q_5 q_133 rfl (by decide +kernel) ⟨Nat.le_of_ble_eq_true rfl, Nat.le_of_ble_eq_true rfl⟩ dL_law_546 rfl hl.1 (Nat.le_of_ble_eq_true rfl) ⟨Nat.le.intro hbc, Nat.le.intro hbs⟩) hW (fun r517 u516 h9 H locs hW => ?_)
  replace h := h9
  clear h9
  refine lv_iload hx hb dL_law_549 (lv_at hl 1 rfl) ?_
  refine lv_icmp_eq (tgt := 556) hx hb dL_law_551 (by decide) (fun hc518 => ?_) (fun hc518 => ?_)
  · have h := h.1 hc518
    refine lv_iload hx hb dL_law_556 (lv_at hl 1 rfl) ?_
    refine lv_if_ne (tgt := 573) hx hb dL_law_558 (by decide) (fun hc519 => ?_) (fun hc519 => ?_)
    · have h := h.2 hc519
      exact t_L_law_573 F J23 hJ23 v1 v2 v3 v4 (mc - c512) (ms - b513) u516 _ _ _ _ _ h hW (lv_sub hl [2, 3, 4, 5, 6] rfl) hbc hbs
    · have h := h.1 hc519
      refine lv_aload_n hx hb dL_law_561 rfl (lv_at hl 5 rfl) ?_
      refine lv_iconst (v := (0 : Int32)) hx hb dL_law_562 (by decide) ?_
      refine rJald F.1 hW h.1 h.2.1 dL_law_563 ?_
      replace h := h.2.2
      refine lv_iload hx hb dL_law_564 (lv_at hl 0 rfl) ?_
      refine lv_i2l hx hb dL_law_566 rfl ?_
      refine W.lcmp hx hb dL_law_567 ?_
      refine lv_if_eq (tgt := 573) hx hb dL_law_568 (by decide) (fun hc520 => ?_) (fun hc520 => ?_)
      · have h := h.1 hc520
        exact t_L_law_573 F J23 hJ23 v1 v2 v3 v4 (mc - c512) (ms - b513) u516 _ _ _ _ _ h hW (lv_sub hl [2, 3, 4, 5, 6] rfl) hbc hbs
      · have h := h.2 hc520
        refine lv_iconst (v := (0 : Int32)) hx hb dL_law_571 (by decide) ?_
        exact h.elim
  · have h := h.2 hc518
    refine lv_iconst (v := (0 : Int32)) hx hb dL_law_554 (by decide) ?_
    exact h.elim
set_option maxHeartbeats 4000000 in
set_option maxRecDepth 100000 in
theorem t_L_law_617 {p : Program} {l : Launch} {e : Env} {s : State} {m : MethodId} {below : List Frame} {meth : Method} {c : Code} {G : Ctx} {b L : Nat} {xs : Nat → Int32} (F : Lx p l s m meth c G b L xs) (J23 : Nat → Nat → Nat → Int32 → Nat → Nat → Mem → Prop) (hJ23 : ∀ (v1 : Nat) (v2 : Nat) (v3 : Nat) (v4 : Int32) (mc ms : Nat) (u : Mem) (H : Heap) (locs : List Loc) (cells slots : Nat) (ls : Array Slot), J23 v1 v2 v3 v4 mc ms u → Wd G u s H locs → lv_has ls 7 [(0, .ref b), (1, .ref v1), (2, .ref v2), (3, .ref v3), (4, .int v4)] → cells + mc = 601024 → slots + ms = 7293034 → W p l e room_1 s m #[Value.ref b] below meth c H locs cells slots (lw_Z below #[Value.ref b] s) (F0 m 23 ls [])) : ∀ (v1 : Nat) (v2 : Nat) (v3 : Nat) (v4 : Int32) (mc ms : Nat) (u : Mem) (H : Heap) (locs : List Loc) (cells slots : Nat) (ls : Array Slot), w_L_law_617 G L xs J23 v1 v2 v3 v4 mc ms u → Wd G u s H locs → lv_has ls 7 [(0, .ref b), (1, .ref v1), (2, .ref v2), (3, .ref v3), (4, .int v4)] → cells + mc = 601024 → slots + ms = 7293034 → W p l e room_1 s m #[Value.ref b] below meth c H locs cells slots (lw_Z below #[Value.ref b] s) (F0 m 617 ls []) := by
  have hx := F.1.1.1
  have hb := F.1.1.2.1
  intro v1 v2 v3 v4 mc ms u H locs cells slots ls h hW hl hbc hbs
  unfold w_L_law_617 at h
  refine lv_goto (tgt := 1347) hx hb dL_law_617 (by decide) ?_
  exact t_L_law_1347 F J23 hJ23 v1 v2 v3 v4 mc ms u _ _ _ _ _ h hW (lv_sub hl [0, 1, 2, 3, 4] rfl) hbc hbs
set_option maxHeartbeats 4000000 in
set_option maxRecDepth 100000 in
theorem t_L_law_576 {p : Program} {l : Launch} {e : Env} {s : State} {m : MethodId} {below : List Frame} {meth : Method} {c : Code} {G : Ctx} {b L : Nat} {xs : Nat → Int32} (F : Lx p l s m meth c G b L xs) (J23 : Nat → Nat → Nat → Int32 → Nat → Nat → Mem → Prop) (hJ23 : ∀ (v1 : Nat) (v2 : Nat) (v3 : Nat) (v4 : Int32) (mc ms : Nat) (u : Mem) (H : Heap) (locs : List Loc) (cells slots : Nat) (ls : Array Slot), J23 v1 v2 v3 v4 mc ms u → Wd G u s H locs → lv_has ls 7 [(0, .ref b), (1, .ref v1), (2, .ref v2), (3, .ref v3), (4, .int v4)] → cells + mc = 601024 → slots + ms = 7293034 → W p l e room_1 s m #[Value.ref b] below meth c H locs cells slots (lw_Z below #[Value.ref b] s) (F0 m 23 ls [])) : ∀ (v1 : Nat) (v2 : Nat) (v3 : Nat) (v4 : Int32) (mc ms : Nat) (u : Mem) (H : Heap) (locs : List Loc) (cells slots : Nat) (ls : Array Slot), w_L_law_576 G L xs J23 v1 v2 v3 v4 mc ms u → Wd G u s H locs → lv_has ls 7 [(0, .ref b), (1, .ref v1), (2, .ref v2), (3, .ref v3), (4, .int v4)] → cells + mc = 601024 → slots + ms = 7293034 → W p l e room_1 s m #[Value.ref b] below meth c H locs cells slots (lw_Z below #[Value.ref b] s) (F0 m 576 ls []) := by
  have hx := F.1.1.1
  have hb := F.1.1.2.1
  intro v1 v2 v3 v4 mc ms u H locs cells slots ls h hW hl hbc hbs
  unfold w_L_law_576 at h
  refine lv_aload_n hx hb dL_law_576 rfl (lv_at hl 1 rfl) ?_
  refine lv_aload_n hx hb dL_law_577 rfl (lv_at hl 3 rfl) ?_
  obtain ⟨c523, b524, h1, h2, h⟩ := h
  have hf1 := bdf hbc h1
  have hf2 := bdf hbs h2
  refine cI (runSW (n := 2) (As := [.ref v1, .ref v3]) (rest := []) F.1 hW (c_L_night F.1.2.2.2 G v1 v3 c523 b524 u _ h) q_393 q_394 q_94 q_395 (by decide +kernel) ⟨Nat.le_of_ble_eq_true rfl, Nat.le_of_ble_eq_true rfl⟩ dL_law_578 rfl hl.1 (Nat.le_of_ble_eq_true rfl) ⟨hf1, hf2⟩) hW (fun r522 u521 h9 H locs hW => ?_)
  replace h := h9
  clear h9
  replace hbc := bdg hbc h1
  replace hbs := bdg hbs h2
  clear h1 h2 hf1 hf2
  refine lv_istore (lv' := [(5, .int r522), (0, .ref b), (1, .ref v1), (2, .ref v2), (3, .ref v3), (4, .int v4)]) hx hb dL_law_581 hl (by decide) rfl (fun ls hl9 => ?_)
  replace hl := hl9
  clear hl9
  refine lv_aload_n hx hb dL_law_583 rfl (lv_at hl 3 rfl) ?_
  obtain ⟨hob, h⟩ := h
  refine cI (runV (n := 0) (As := []) (rest := []) F.1 hW (c_X6_night F.1.2.2.2 G v2 u521 _ h) hob (ci := 7) rfl q_417 q_418 q_419 q_5 q_420 rfl (by decide +kernel) ⟨Nat.le_of_ble_eq_true rfl, Nat.le_of_ble_eq_true rfl⟩ dL_law_584 rfl hl.1 (Nat.le_of_ble_eq_true rfl) ⟨Nat.le.intro hbc, Nat.le.intro hbs⟩) hW (fun r526 u525 h9 H locs hW => ?_)
  replace h := h9
  clear h9
  refine lv_istore (lv' := [(6, .int r526), (5, .int r522), (0, .ref b), (1, .ref v1), (2, .ref v2), (3, .ref v3), (4, .int v4)]) hx hb dL_law_587 hl (by decide) rfl (fun ls hl9 => ?_)
  replace hl := hl9
  clear hl9
  refine lv_aload_n hx hb dL_law_589 rfl (lv_at hl 4 rfl) ?_
  obtain ⟨hob, h⟩ := h
  refine cI (runV (n := 0) (As := []) (rest := []) F.1 hW (c_X6_thrown F.1.2.2.2 G v2 u525 _ h) hob (ci := 7) rfl q_130 q_131 q_132 q_5 q_133 rfl (by decide +kernel) ⟨Nat.le_of_ble_eq_true rfl, Nat.le_of_ble_eq_true rfl⟩ dL_law_590 rfl hl.1 (Nat.le_of_ble_eq_true rfl) ⟨Nat.le.intro hbc, Nat.le.intro hbs⟩) hW (fun r528 u527 h9 H locs hW => ?_)
  replace h := h9
  clear h9
  refine lv_iload hx hb dL_law_593 (lv_at hl 1 rfl) ?_
  refine lv_icmp_eq (tgt := 600) hx hb dL_law_595 (by decide) (fun hc529 => ?_) (fun hc529 => ?_)
  · have h := h.1 hc529
    refine lv_iload hx hb dL_law_600 (lv_at hl 1 rfl) ?_
    refine lv_if_ne (tgt := 617) hx hb dL_law_602 (by decide) (fun hc530 => ?_) (fun hc530 => ?_)
    · have h := h.2 hc530
      exact t_L_law_617 F J23 hJ23 v1 v2 v3 v4 (mc - c523) (ms - b524) u527 _ _ _ _ _ h hW (lv_sub hl [2, 3, 4, 5, 6] rfl) hbc hbs
    · have h := h.1 hc530
      refine lv_aload_n hx hb dL_law_605 rfl (lv_at hl 5 rfl) ?_
      refine lv_iconst (v := (0 : Int32)) hx hb dL_law_606 (by decide) ?_
      refine rJald F.1 hW h.1 h.2.1 dL_law_607 ?_
      replace h := h.2.2
      refine lv_iload hx hb dL_law_608 (lv_at hl 0 rfl) ?_
      refine lv_i2l hx hb dL_law_610 rfl ?_
      refine W.lcmp hx hb dL_law_611 ?_
      refine lv_if_eq (tgt := 617) hx hb dL_law_612 (by decide) (fun hc531 => ?_) (fun hc531 => ?_)
      · have h := h.1 hc531
        exact t_L_law_617 F J23 hJ23 v1 v2 v3 v4 (mc - c523) (ms - b524) u527 _ _ _ _ _ h hW (lv_sub hl [2, 3, 4, 5, 6] rfl) hbc hbs
      · have h := h.2 hc531
        refine lv_iconst (v := (0 : Int32)) hx hb dL_law_615 (by decide) ?_
        exact h.elim
  · have h := h.2 hc529
    refine lv_iconst (v := (0 : Int32)) hx hb dL_law_598 (by decide) ?_
    exact h.elim
set_option maxHeartbeats 4000000 in
set_option maxRecDepth 100000 in
theorem t_L_law_701 {p : Program} {l : Launch} {e : Env} {s : State} {m : MethodId} {below : List Frame} {meth : Method} {c : Code} {G : Ctx} {b L : Nat} {xs : Nat → Int32} (F : Lx p l s m meth c G b L xs) (J23 : Nat → Nat → Nat → Int32 → Nat → Nat → Mem → Prop) (hJ23 : ∀ (v1 : Nat) (v2 : Nat) (v3 : Nat) (v4 : Int32) (mc ms : Nat) (u : Mem) (H : Heap) (locs : List Loc) (cells slots : Nat) (ls : Array Slot), J23 v1 v2 v3 v4 mc ms u → Wd G u s H locs → lv_has ls 7 [(0, .ref b), (1, .ref v1), (2, .ref v2), (3, .ref v3), (4, .int v4)] → cells + mc = 601024 → slots + ms = 7293034 → W p l e room_1 s m #[Value.ref b] below meth c H locs cells slots (lw_Z below #[Value.ref b] s) (F0 m 23 ls [])) : ∀ (v1 : Nat) (v2 : Nat) (v3 : Nat) (v4 : Int32) (mc ms : Nat) (u : Mem) (H : Heap) (locs : List Loc) (cells slots : Nat) (ls : Array Slot), w_L_law_701 G L xs J23 v1 v2 v3 v4 mc ms u → Wd G u s H locs → lv_has ls 7 [(0, .ref b), (1, .ref v1), (2, .ref v2), (3, .ref v3), (4, .int v4)] → cells + mc = 601024 → slots + ms = 7293034 → W p l e room_1 s m #[Value.ref b] below meth c H locs cells slots (lw_Z below #[Value.ref b] s) (F0 m 701 ls []) := by
  have hx := F.1.1.1
  have hb := F.1.1.2.1
  intro v1 v2 v3 v4 mc ms u H locs cells slots ls h hW hl hbc hbs
  unfold w_L_law_701 at h
  refine lv_goto (tgt := 1347) hx hb dL_law_701 (by decide) ?_
  exact t_L_law_1347 F J23 hJ23 v1 v2 v3 v4 mc ms u _ _ _ _ _ h hW (lv_sub hl [0, 1, 2, 3, 4] rfl) hbc hbs
set_option maxHeartbeats 4000000 in
set_option maxRecDepth 100000 in
theorem t_L_law_668 {p : Program} {l : Launch} {e : Env} {s : State} {m : MethodId} {below : List Frame} {meth : Method} {c : Code} {G : Ctx} {b L : Nat} {xs : Nat → Int32} (F : Lx p l s m meth c G b L xs) (J23 : Nat → Nat → Nat → Int32 → Nat → Nat → Mem → Prop) (hJ23 : ∀ (v1 : Nat) (v2 : Nat) (v3 : Nat) (v4 : Int32) (mc ms : Nat) (u : Mem) (H : Heap) (locs : List Loc) (cells slots : Nat) (ls : Array Slot), J23 v1 v2 v3 v4 mc ms u → Wd G u s H locs → lv_has ls 7 [(0, .ref b), (1, .ref v1), (2, .ref v2), (3, .ref v3), (4, .int v4)] → cells + mc = 601024 → slots + ms = 7293034 → W p l e room_1 s m #[Value.ref b] below meth c H locs cells slots (lw_Z below #[Value.ref b] s) (F0 m 23 ls [])) : ∀ (v1 : Nat) (v2 : Nat) (v3 : Nat) (v4 : Int32) (v5 : Int32) (s0 : Int32) (s1 : Int32) (s2 : Nat) (mc ms : Nat) (u : Mem) (H : Heap) (locs : List Loc) (cells slots : Nat) (ls : Array Slot), w_L_law_668 G L xs J23 v1 v2 v3 v4 v5 s0 s1 s2 mc ms u → Wd G u s H locs → lv_has ls 7 [(0, .ref b), (1, .ref v1), (2, .ref v2), (3, .ref v3), (4, .int v4), (5, .int v5)] → cells + mc = 601024 → slots + ms = 7293034 → W p l e room_1 s m #[Value.ref b] below meth c H locs cells slots (lw_Z below #[Value.ref b] s) (F0 m 668 ls [.int s0, .int s1, .ref s2]) := by
  have hx := F.1.1.1
  have hb := F.1.1.2.1
  intro v1 v2 v3 v4 v5 s0 s1 s2 mc ms u H locs cells slots ls h hW hl hbc hbs
  unfold w_L_law_668 at h
  obtain ⟨hob, h⟩ := h
  refine cI (runV (n := 2) (As := [.int s1, .int s0]) (rest := []) F.1 hW (c_X6_complain F.1.2.2.2 G s2 s1 s0 u _ h) hob (ci := 7) rfl q_433 q_434 q_435 q_5 q_436 rfl (by decide +kernel) ⟨Nat.le_of_ble_eq_true rfl, Nat.le_of_ble_eq_true rfl⟩ dL_law_668 rfl hl.1 (Nat.le_of_ble_eq_true rfl) ⟨Nat.le.intro hbc, Nat.le.intro hbs⟩) hW (fun r533 u532 h9 H locs hW => ?_)
  replace h := h9
  clear h9
  refine lv_istore (lv' := [(6, .int r533), (0, .ref b), (1, .ref v1), (2, .ref v2), (3, .ref v3), (4, .int v4), (5, .int v5)]) hx hb dL_law_671 hl (by decide) rfl (fun ls hl9 => ?_)
  replace hl := hl9
  clear hl9
  refine lv_aload_n hx hb dL_law_673 rfl (lv_at hl 3 rfl) ?_
  obtain ⟨hob, h⟩ := h
  refine cI (runV (n := 0) (As := []) (rest := []) F.1 hW (c_X6_thrown F.1.2.2.2 G v2 u532 _ h) hob (ci := 7) rfl q_130 q_131 q_132 q_5 q_133 rfl (by decide +kernel) ⟨Nat.le_of_ble_eq_true rfl, Nat.le_of_ble_eq_true rfl⟩ dL_law_674 rfl hl.1 (Nat.le_of_ble_eq_true rfl) ⟨Nat.le.intro hbc, Nat.le.intro hbs⟩) hW (fun r535 u534 h9 H locs hW => ?_)
  replace h := h9
  clear h9
  refine lv_iload hx hb dL_law_677 (lv_at hl 6 rfl) ?_
  refine lv_icmp_eq (tgt := 684) hx hb dL_law_679 (by decide) (fun hc536 => ?_) (fun hc536 => ?_)
  · have h := h.1 hc536
    refine lv_iload hx hb dL_law_684 (lv_at hl 6 rfl) ?_
    refine lv_if_ne (tgt := 701) hx hb dL_law_686 (by decide) (fun hc537 => ?_) (fun hc537 => ?_)
    · have h := h.2 hc537
      exact t_L_law_701 F J23 hJ23 v1 v2 v3 v4 mc ms u534 _ _ _ _ _ h hW (lv_sub hl [1, 2, 3, 4, 5] rfl) hbc hbs
    · have h := h.1 hc537
      refine lv_aload_n hx hb dL_law_689 rfl (lv_at hl 4 rfl) ?_
      refine lv_iconst (v := (0 : Int32)) hx hb dL_law_690 (by decide) ?_
      refine rJald F.1 hW h.1 h.2.1 dL_law_691 ?_
      replace h := h.2.2
      refine lv_iload hx hb dL_law_692 (lv_at hl 0 rfl) ?_
      refine lv_i2l hx hb dL_law_694 rfl ?_
      refine W.lcmp hx hb dL_law_695 ?_
      refine lv_if_eq (tgt := 701) hx hb dL_law_696 (by decide) (fun hc538 => ?_) (fun hc538 => ?_)
      · have h := h.1 hc538
        exact t_L_law_701 F J23 hJ23 v1 v2 v3 v4 mc ms u534 _ _ _ _ _ h hW (lv_sub hl [1, 2, 3, 4, 5] rfl) hbc hbs
      · have h := h.2 hc538
        refine lv_iconst (v := (0 : Int32)) hx hb dL_law_699 (by decide) ?_
        exact h.elim
  · have h := h.2 hc536
    refine lv_iconst (v := (0 : Int32)) hx hb dL_law_682 (by decide) ?_
    exact h.elim
set_option maxHeartbeats 4000000 in
set_option maxRecDepth 100000 in
theorem t_L_law_641 {p : Program} {l : Launch} {e : Env} {s : State} {m : MethodId} {below : List Frame} {meth : Method} {c : Code} {G : Ctx} {b L : Nat} {xs : Nat → Int32} (F : Lx p l s m meth c G b L xs) (J23 : Nat → Nat → Nat → Int32 → Nat → Nat → Mem → Prop) (hJ23 : ∀ (v1 : Nat) (v2 : Nat) (v3 : Nat) (v4 : Int32) (mc ms : Nat) (u : Mem) (H : Heap) (locs : List Loc) (cells slots : Nat) (ls : Array Slot), J23 v1 v2 v3 v4 mc ms u → Wd G u s H locs → lv_has ls 7 [(0, .ref b), (1, .ref v1), (2, .ref v2), (3, .ref v3), (4, .int v4)] → cells + mc = 601024 → slots + ms = 7293034 → W p l e room_1 s m #[Value.ref b] below meth c H locs cells slots (lw_Z below #[Value.ref b] s) (F0 m 23 ls [])) : ∀ (v1 : Nat) (v2 : Nat) (v3 : Nat) (v4 : Int32) (s0 : Int32) (s1 : Int32) (s2 : Nat) (mc ms : Nat) (u : Mem) (H : Heap) (locs : List Loc) (cells slots : Nat) (ls : Array Slot), w_L_law_641 G L xs J23 v1 v2 v3 v4 s0 s1 s2 mc ms u → Wd G u s H locs → lv_has ls 7 [(0, .ref b), (1, .ref v1), (2, .ref v2), (3, .ref v3), (4, .int v4)] → cells + mc = 601024 → slots + ms = 7293034 → W p l e room_1 s m #[Value.ref b] below meth c H locs cells slots (lw_Z below #[Value.ref b] s) (F0 m 641 ls [.int s0, .int s1, .ref s2]) := by
  have hx := F.1.1.1
  have hb := F.1.1.2.1
  intro v1 v2 v3 v4 s0 s1 s2 mc ms u H locs cells slots ls h hW hl hbc hbs
  unfold w_L_law_641 at h
  refine lv_aload_n hx hb dL_law_641 rfl (lv_at hl 3 rfl) ?_
  obtain ⟨c541, b542, h1, h2, h⟩ := h
  have hf1 := bdf hbc h1
  have hf2 := bdf hbs h2
  refine cI (runSW (n := 4) (As := [.ref s2, .int s1, .int s0, .ref v3]) (rest := []) F.1 hW (c_L_complain F.1.2.2.2 G s2 s1 s0 v3 c541 b542 u _ h) q_421 q_422 q_94 q_423 (by decide +kernel) ⟨Nat.le_of_ble_eq_true rfl, Nat.le_of_ble_eq_true rfl⟩ dL_law_642 rfl hl.1 (Nat.le_of_ble_eq_true rfl) ⟨hf1, hf2⟩) hW (fun r540 u539 h9 H locs hW => ?_)
  replace h := h9
  clear h9
  replace hbc := bdg hbc h1
  replace hbs := bdg hbs h2
  clear h1 h2 hf1 hf2
  refine lv_istore (lv' := [(5, .int r540), (0, .ref b), (1, .ref v1), (2, .ref v2), (3, .ref v3), (4, .int v4)]) hx hb dL_law_645 hl (by decide) rfl (fun ls hl9 => ?_)
  replace hl := hl9
  clear hl9
  refine lv_aload_n hx hb dL_law_647 rfl (lv_at hl 3 rfl) ?_
  refine lv_aload_n hx hb dL_law_648 rfl (lv_at hl 1 rfl) ?_
  refine lv_iload hx hb dL_law_649 (lv_at hl 5 rfl) ?_
  refine lv_iconst (v := (1 : Int32)) hx hb dL_law_651 (by decide) ?_
  refine lv_iadd hx hb dL_law_652 ?_
  refine va_sld hx hb F.2.1 F.2.2.1 F.2.2.2.1 hW.2 h.1 dL_law_653 ?_
  replace h := h.2
  refine lv_aload_n hx hb dL_law_654 rfl (lv_at hl 1 rfl) ?_
  refine lv_iload hx hb dL_law_655 (lv_at hl 5 rfl) ?_
  refine lv_iconst (v := (2 : Int32)) hx hb dL_law_657 (by decide) ?_
  refine lv_iadd hx hb dL_law_658 ?_
  refine va_sld hx hb F.2.1 F.2.2.1 F.2.2.2.1 hW.2 h.1 dL_law_659 ?_
  replace h := h.2
  refine lv_if_eq (tgt := 667) hx hb dL_law_660 (by decide) (fun hc543 => ?_) (fun hc543 => ?_)
  · have h := h.1 hc543
    refine lv_iconst (v := (0 : Int32)) hx hb dL_law_667 (by decide) ?_
    exact t_L_law_668 F J23 hJ23 v1 v2 v3 v4 r540 (0 : Int32) (xs (v4 + (1 : Int32)).toNatClampNeg) v2 (mc - c541) (ms - b542) u539 _ _ _ _ _ h hW (lv_sub hl [1, 2, 3, 4, 5, 0] rfl) hbc hbs
  · have h := h.2 hc543
    refine lv_iconst (v := (1 : Int32)) hx hb dL_law_663 (by decide) ?_
    refine lv_goto (tgt := 668) hx hb dL_law_664 (by decide) ?_
    exact t_L_law_668 F J23 hJ23 v1 v2 v3 v4 r540 (1 : Int32) (xs (v4 + (1 : Int32)).toNatClampNeg) v2 (mc - c541) (ms - b542) u539 _ _ _ _ _ h hW (lv_sub hl [1, 2, 3, 4, 5, 0] rfl) hbc hbs
set_option maxHeartbeats 4000000 in
set_option maxRecDepth 100000 in
theorem t_L_law_620 {p : Program} {l : Launch} {e : Env} {s : State} {m : MethodId} {below : List Frame} {meth : Method} {c : Code} {G : Ctx} {b L : Nat} {xs : Nat → Int32} (F : Lx p l s m meth c G b L xs) (J23 : Nat → Nat → Nat → Int32 → Nat → Nat → Mem → Prop) (hJ23 : ∀ (v1 : Nat) (v2 : Nat) (v3 : Nat) (v4 : Int32) (mc ms : Nat) (u : Mem) (H : Heap) (locs : List Loc) (cells slots : Nat) (ls : Array Slot), J23 v1 v2 v3 v4 mc ms u → Wd G u s H locs → lv_has ls 7 [(0, .ref b), (1, .ref v1), (2, .ref v2), (3, .ref v3), (4, .int v4)] → cells + mc = 601024 → slots + ms = 7293034 → W p l e room_1 s m #[Value.ref b] below meth c H locs cells slots (lw_Z below #[Value.ref b] s) (F0 m 23 ls [])) : ∀ (v1 : Nat) (v2 : Nat) (v3 : Nat) (v4 : Int32) (mc ms : Nat) (u : Mem) (H : Heap) (locs : List Loc) (cells slots : Nat) (ls : Array Slot), w_L_law_620 G L xs J23 v1 v2 v3 v4 mc ms u → Wd G u s H locs → lv_has ls 7 [(0, .ref b), (1, .ref v1), (2, .ref v2), (3, .ref v3), (4, .int v4)] → cells + mc = 601024 → slots + ms = 7293034 → W p l e room_1 s m #[Value.ref b] below meth c H locs cells slots (lw_Z below #[Value.ref b] s) (F0 m 620 ls []) := by
  have hx := F.1.1.1
  have hb := F.1.1.2.1
  intro v1 v2 v3 v4 mc ms u H locs cells slots ls h hW hl hbc hbs
  unfold w_L_law_620 at h
  refine lv_aload_n hx hb dL_law_620 rfl (lv_at hl 1 rfl) ?_
  refine lv_aload_n hx hb dL_law_621 rfl (lv_at hl 0 rfl) ?_
  refine lv_iload hx hb dL_law_622 (lv_at hl 4 rfl) ?_
  refine lv_iconst (v := (1 : Int32)) hx hb dL_law_624 (by decide) ?_
  refine lv_iadd hx hb dL_law_625 ?_
  refine va_sld hx hb F.2.1 F.2.2.1 F.2.2.2.1 hW.2 h.1 dL_law_626 ?_
  replace h := h.2
  refine lv_aload_n hx hb dL_law_627 rfl (lv_at hl 0 rfl) ?_
  refine lv_iload hx hb dL_law_628 (lv_at hl 4 rfl) ?_
  refine lv_iconst (v := (2 : Int32)) hx hb dL_law_630 (by decide) ?_
  refine lv_iadd hx hb dL_law_631 ?_
  refine va_sld hx hb F.2.1 F.2.2.1 F.2.2.2.1 hW.2 h.1 dL_law_632 ?_
  replace h := h.2
  refine lv_if_eq (tgt := 640) hx hb dL_law_633 (by decide) (fun hc544 => ?_) (fun hc544 => ?_)
  · have h := h.1 hc544
    refine lv_iconst (v := (0 : Int32)) hx hb dL_law_640 (by decide) ?_
    exact t_L_law_641 F J23 hJ23 v1 v2 v3 v4 (0 : Int32) (xs (v4 + (1 : Int32)).toNatClampNeg) v1 mc ms u _ _ _ _ _ h hW (lv_sub hl [0, 1, 2, 3, 4] rfl) hbc hbs
  · have h := h.2 hc544
    refine lv_iconst (v := (1 : Int32)) hx hb dL_law_636 (by decide) ?_
    refine lv_goto (tgt := 641) hx hb dL_law_637 (by decide) ?_
    exact t_L_law_641 F J23 hJ23 v1 v2 v3 v4 (1 : Int32) (xs (v4 + (1 : Int32)).toNatClampNeg) v1 mc ms u _ _ _ _ _ h hW (lv_sub hl [0, 1, 2, 3, 4] rfl) hbc hbs
set_option maxHeartbeats 4000000 in
set_option maxRecDepth 100000 in
theorem t_L_law_704 {p : Program} {l : Launch} {e : Env} {s : State} {m : MethodId} {below : List Frame} {meth : Method} {c : Code} {G : Ctx} {b L : Nat} {xs : Nat → Int32} (F : Lx p l s m meth c G b L xs) (J23 : Nat → Nat → Nat → Int32 → Nat → Nat → Mem → Prop) (hJ23 : ∀ (v1 : Nat) (v2 : Nat) (v3 : Nat) (v4 : Int32) (mc ms : Nat) (u : Mem) (H : Heap) (locs : List Loc) (cells slots : Nat) (ls : Array Slot), J23 v1 v2 v3 v4 mc ms u → Wd G u s H locs → lv_has ls 7 [(0, .ref b), (1, .ref v1), (2, .ref v2), (3, .ref v3), (4, .int v4)] → cells + mc = 601024 → slots + ms = 7293034 → W p l e room_1 s m #[Value.ref b] below meth c H locs cells slots (lw_Z below #[Value.ref b] s) (F0 m 23 ls [])) : ∀ (v1 : Nat) (v2 : Nat) (v3 : Nat) (v4 : Int32) (mc ms : Nat) (u : Mem) (H : Heap) (locs : List Loc) (cells slots : Nat) (ls : Array Slot), w_L_law_704 G L xs J23 v1 v2 v3 v4 mc ms u → Wd G u s H locs → lv_has ls 7 [(0, .ref b), (1, .ref v1), (2, .ref v2), (3, .ref v3), (4, .int v4)] → cells + mc = 601024 → slots + ms = 7293034 → W p l e room_1 s m #[Value.ref b] below meth c H locs cells slots (lw_Z below #[Value.ref b] s) (F0 m 704 ls []) := by
  have hx := F.1.1.1
  have hb := F.1.1.2.1
  intro v1 v2 v3 v4 mc ms u H locs cells slots ls h hW hl hbc hbs
  unfold w_L_law_704 at h
  refine lv_aload_n hx hb dL_law_704 rfl (lv_at hl 1 rfl) ?_
  obtain ⟨hob, h⟩ := h
  refine cI (runV (n := 0) (As := []) (rest := []) F.1 hW (c_X5_day F.1.2.2.2 G v1 u _ h) hob (ci := 6) rfl q_441 q_442 q_443 q_2 q_444 rfl (by decide +kernel) ⟨Nat.le_of_ble_eq_true rfl, Nat.le_of_ble_eq_true rfl⟩ dL_law_705 rfl hl.1 (Nat.le_of_ble_eq_true rfl) ⟨Nat.le.intro hbc, Nat.le.intro hbs⟩) hW (fun r546 u545 h9 H locs hW => ?_)
  replace h := h9
  clear h9
  refine lv_aload_n hx hb dL_law_708 rfl (lv_at hl 2 rfl) ?_
  obtain ⟨hob, h⟩ := h
  refine cI (runV (n := 0) (As := []) (rest := [.int r546]) F.1 hW (c_X6_day F.1.2.2.2 G v2 u545 _ h) hob (ci := 7) rfl q_445 q_446 q_447 q_5 q_448 rfl (by decide +kernel) ⟨Nat.le_of_ble_eq_true rfl, Nat.le_of_ble_eq_true rfl⟩ dL_law_709 rfl hl.1 (Nat.le_of_ble_eq_true rfl) ⟨Nat.le.intro hbc, Nat.le.intro hbs⟩) hW (fun r548 u547 h9 H locs hW => ?_)
  replace h := h9
  clear h9
  refine lv_icmp_eq (tgt := 1347) hx hb dL_law_712 (by decide) (fun hc549 => ?_) (fun hc549 => ?_)
  · have h := h.1 hc549
    exact t_L_law_1347 F J23 hJ23 v1 v2 v3 v4 mc ms u547 _ _ _ _ _ h hW (lv_sub hl [0, 1, 2, 3, 4] rfl) hbc hbs
  · have h := h.2 hc549
    refine lv_iconst (v := (0 : Int32)) hx hb dL_law_715 (by decide) ?_
    exact h.elim
set_option maxHeartbeats 4000000 in
set_option maxRecDepth 100000 in
theorem t_L_law_717 {p : Program} {l : Launch} {e : Env} {s : State} {m : MethodId} {below : List Frame} {meth : Method} {c : Code} {G : Ctx} {b L : Nat} {xs : Nat → Int32} (F : Lx p l s m meth c G b L xs) (J23 : Nat → Nat → Nat → Int32 → Nat → Nat → Mem → Prop) (hJ23 : ∀ (v1 : Nat) (v2 : Nat) (v3 : Nat) (v4 : Int32) (mc ms : Nat) (u : Mem) (H : Heap) (locs : List Loc) (cells slots : Nat) (ls : Array Slot), J23 v1 v2 v3 v4 mc ms u → Wd G u s H locs → lv_has ls 7 [(0, .ref b), (1, .ref v1), (2, .ref v2), (3, .ref v3), (4, .int v4)] → cells + mc = 601024 → slots + ms = 7293034 → W p l e room_1 s m #[Value.ref b] below meth c H locs cells slots (lw_Z below #[Value.ref b] s) (F0 m 23 ls [])) : ∀ (v1 : Nat) (v2 : Nat) (v3 : Nat) (v4 : Int32) (mc ms : Nat) (u : Mem) (H : Heap) (locs : List Loc) (cells slots : Nat) (ls : Array Slot), w_L_law_717 G L xs J23 v1 v2 v3 v4 mc ms u → Wd G u s H locs → lv_has ls 7 [(0, .ref b), (1, .ref v1), (2, .ref v2), (3, .ref v3), (4, .int v4)] → cells + mc = 601024 → slots + ms = 7293034 → W p l e room_1 s m #[Value.ref b] below meth c H locs cells slots (lw_Z below #[Value.ref b] s) (F0 m 717 ls []) := by
  have hx := F.1.1.1
  have hb := F.1.1.2.1
  intro v1 v2 v3 v4 mc ms u H locs cells slots ls h hW hl hbc hbs
  unfold w_L_law_717 at h
  refine lv_aload_n hx hb dL_law_717 rfl (lv_at hl 1 rfl) ?_
  obtain ⟨hob, h⟩ := h
  refine cI (runV (n := 0) (As := []) (rest := []) F.1 hW (c_X5_minute F.1.2.2.2 G v1 u _ h) hob (ci := 6) rfl q_449 q_450 q_451 q_2 q_452 rfl (by decide +kernel) ⟨Nat.le_of_ble_eq_true rfl, Nat.le_of_ble_eq_true rfl⟩ dL_law_718 rfl hl.1 (Nat.le_of_ble_eq_true rfl) ⟨Nat.le.intro hbc, Nat.le.intro hbs⟩) hW (fun r551 u550 h9 H locs hW => ?_)
  replace h := h9
  clear h9
  refine lv_aload_n hx hb dL_law_721 rfl (lv_at hl 2 rfl) ?_
  obtain ⟨hob, h⟩ := h
  refine cI (runV (n := 0) (As := []) (rest := [.int r551]) F.1 hW (c_X6_minute F.1.2.2.2 G v2 u550 _ h) hob (ci := 7) rfl q_453 q_454 q_455 q_5 q_456 rfl (by decide +kernel) ⟨Nat.le_of_ble_eq_true rfl, Nat.le_of_ble_eq_true rfl⟩ dL_law_722 rfl hl.1 (Nat.le_of_ble_eq_true rfl) ⟨Nat.le.intro hbc, Nat.le.intro hbs⟩) hW (fun r553 u552 h9 H locs hW => ?_)
  replace h := h9
  clear h9
  refine lv_icmp_eq (tgt := 1347) hx hb dL_law_725 (by decide) (fun hc554 => ?_) (fun hc554 => ?_)
  · have h := h.1 hc554
    exact t_L_law_1347 F J23 hJ23 v1 v2 v3 v4 mc ms u552 _ _ _ _ _ h hW (lv_sub hl [0, 1, 2, 3, 4] rfl) hbc hbs
  · have h := h.2 hc554
    refine lv_iconst (v := (0 : Int32)) hx hb dL_law_728 (by decide) ?_
    exact h.elim
set_option maxHeartbeats 4000000 in
set_option maxRecDepth 100000 in
theorem t_L_law_783 {p : Program} {l : Launch} {e : Env} {s : State} {m : MethodId} {below : List Frame} {meth : Method} {c : Code} {G : Ctx} {b L : Nat} {xs : Nat → Int32} (F : Lx p l s m meth c G b L xs) (J23 : Nat → Nat → Nat → Int32 → Nat → Nat → Mem → Prop) (hJ23 : ∀ (v1 : Nat) (v2 : Nat) (v3 : Nat) (v4 : Int32) (mc ms : Nat) (u : Mem) (H : Heap) (locs : List Loc) (cells slots : Nat) (ls : Array Slot), J23 v1 v2 v3 v4 mc ms u → Wd G u s H locs → lv_has ls 7 [(0, .ref b), (1, .ref v1), (2, .ref v2), (3, .ref v3), (4, .int v4)] → cells + mc = 601024 → slots + ms = 7293034 → W p l e room_1 s m #[Value.ref b] below meth c H locs cells slots (lw_Z below #[Value.ref b] s) (F0 m 23 ls [])) : ∀ (v1 : Nat) (v2 : Nat) (v3 : Nat) (v4 : Int32) (mc ms : Nat) (u : Mem) (H : Heap) (locs : List Loc) (cells slots : Nat) (ls : Array Slot), w_L_law_783 G L xs J23 v1 v2 v3 v4 mc ms u → Wd G u s H locs → lv_has ls 7 [(0, .ref b), (1, .ref v1), (2, .ref v2), (3, .ref v3), (4, .int v4)] → cells + mc = 601024 → slots + ms = 7293034 → W p l e room_1 s m #[Value.ref b] below meth c H locs cells slots (lw_Z below #[Value.ref b] s) (F0 m 783 ls []) := by
  have hx := F.1.1.1
  have hb := F.1.1.2.1
  intro v1 v2 v3 v4 mc ms u H locs cells slots ls h hW hl hbc hbs
  unfold w_L_law_783 at h
  refine lv_goto (tgt := 1347) hx hb dL_law_783 (by decide) ?_
  exact t_L_law_1347 F J23 hJ23 v1 v2 v3 v4 mc ms u _ _ _ _ _ h hW (lv_sub hl [0, 1, 2, 3, 4] rfl) hbc hbs
set_option maxHeartbeats 4000000 in
set_option maxRecDepth 100000 in
theorem t_L_law_730 {p : Program} {l : Launch} {e : Env} {s : State} {m : MethodId} {below : List Frame} {meth : Method} {c : Code} {G : Ctx} {b L : Nat} {xs : Nat → Int32} (F : Lx p l s m meth c G b L xs) (J23 : Nat → Nat → Nat → Int32 → Nat → Nat → Mem → Prop) (hJ23 : ∀ (v1 : Nat) (v2 : Nat) (v3 : Nat) (v4 : Int32) (mc ms : Nat) (u : Mem) (H : Heap) (locs : List Loc) (cells slots : Nat) (ls : Array Slot), J23 v1 v2 v3 v4 mc ms u → Wd G u s H locs → lv_has ls 7 [(0, .ref b), (1, .ref v1), (2, .ref v2), (3, .ref v3), (4, .int v4)] → cells + mc = 601024 → slots + ms = 7293034 → W p l e room_1 s m #[Value.ref b] below meth c H locs cells slots (lw_Z below #[Value.ref b] s) (F0 m 23 ls [])) : ∀ (v1 : Nat) (v2 : Nat) (v3 : Nat) (v4 : Int32) (mc ms : Nat) (u : Mem) (H : Heap) (locs : List Loc) (cells slots : Nat) (ls : Array Slot), w_L_law_730 G L xs J23 v1 v2 v3 v4 mc ms u → Wd G u s H locs → lv_has ls 7 [(0, .ref b), (1, .ref v1), (2, .ref v2), (3, .ref v3), (4, .int v4)] → cells + mc = 601024 → slots + ms = 7293034 → W p l e room_1 s m #[Value.ref b] below meth c H locs cells slots (lw_Z below #[Value.ref b] s) (F0 m 730 ls []) := by
  have hx := F.1.1.1
  have hb := F.1.1.2.1
  intro v1 v2 v3 v4 mc ms u H locs cells slots ls h hW hl hbc hbs
  unfold w_L_law_730 at h
  refine lv_aload_n hx hb dL_law_730 rfl (lv_at hl 1 rfl) ?_
  refine lv_aload_n hx hb dL_law_731 rfl (lv_at hl 0 rfl) ?_
  refine lv_iload hx hb dL_law_732 (lv_at hl 4 rfl) ?_
  refine lv_iconst (v := (1 : Int32)) hx hb dL_law_734 (by decide) ?_
  refine lv_iadd hx hb dL_law_735 ?_
  refine va_sld hx hb F.2.1 F.2.2.1 F.2.2.2.1 hW.2 h.1 dL_law_736 ?_
  replace h := h.2
  refine lv_aload_n hx hb dL_law_737 rfl (lv_at hl 3 rfl) ?_
  obtain ⟨c557, b558, h1, h2, h⟩ := h
  have hf1 := bdf hbc h1
  have hf2 := bdf hbs h2
  refine cI (runSW (n := 3) (As := [.ref v1, .int (xs (v4 + (1 : Int32)).toNatClampNeg), .ref v3]) (rest := []) F.1 hW (c_L_purse F.1.2.2.2 G v1 (xs (v4 + (1 : Int32)).toNatClampNeg) v3 c557 b558 u _ h) q_457 q_458 q_94 q_459 (by decide +kernel) ⟨Nat.le_of_ble_eq_true rfl, Nat.le_of_ble_eq_true rfl⟩ dL_law_738 rfl hl.1 (Nat.le_of_ble_eq_true rfl) ⟨hf1, hf2⟩) hW (fun r556 u555 h9 H locs hW => ?_)
  replace h := h9
  clear h9
  replace hbc := bdg hbc h1
  replace hbs := bdg hbs h2
  clear h1 h2 hf1 hf2
  refine lv_istore (lv' := [(5, .int r556), (0, .ref b), (1, .ref v1), (2, .ref v2), (3, .ref v3), (4, .int v4)]) hx hb dL_law_741 hl (by decide) rfl (fun ls hl9 => ?_)
  replace hl := hl9
  clear hl9
  refine lv_aload_n hx hb dL_law_743 rfl (lv_at hl 3 rfl) ?_
  refine lv_aload_n hx hb dL_law_744 rfl (lv_at hl 1 rfl) ?_
  refine lv_iload hx hb dL_law_745 (lv_at hl 5 rfl) ?_
  refine lv_iconst (v := (1 : Int32)) hx hb dL_law_747 (by decide) ?_
  refine lv_iadd hx hb dL_law_748 ?_
  refine va_sld hx hb F.2.1 F.2.2.1 F.2.2.2.1 hW.2 h.1 dL_law_749 ?_
  replace h := h.2
  obtain ⟨hob, h⟩ := h
  refine cI (runV (n := 1) (As := [.int (xs (v4 + (1 : Int32)).toNatClampNeg)]) (rest := []) F.1 hW (c_X6_purse F.1.2.2.2 G v2 (xs (v4 + (1 : Int32)).toNatClampNeg) u555 _ h) hob (ci := 7) rfl q_464 q_465 q_466 q_5 q_467 rfl (by decide +kernel) ⟨Nat.le_of_ble_eq_true rfl, Nat.le_of_ble_eq_true rfl⟩ dL_law_750 rfl hl.1 (Nat.le_of_ble_eq_true rfl) ⟨Nat.le.intro hbc, Nat.le.intro hbs⟩) hW (fun r560 u559 h9 H locs hW => ?_)
  replace h := h9
  clear h9
  refine lv_istore (lv' := [(6, .int r560), (5, .int r556), (0, .ref b), (1, .ref v1), (2, .ref v2), (3, .ref v3), (4, .int v4)]) hx hb dL_law_753 hl (by decide) rfl (fun ls hl9 => ?_)
  replace hl := hl9
  clear hl9
  refine lv_aload_n hx hb dL_law_755 rfl (lv_at hl 4 rfl) ?_
  obtain ⟨hob, h⟩ := h
  refine cI (runV (n := 0) (As := []) (rest := []) F.1 hW (c_X6_thrown F.1.2.2.2 G v2 u559 _ h) hob (ci := 7) rfl q_130 q_131 q_132 q_5 q_133 rfl (by decide +kernel) ⟨Nat.le_of_ble_eq_true rfl, Nat.le_of_ble_eq_true rfl⟩ dL_law_756 rfl hl.1 (Nat.le_of_ble_eq_true rfl) ⟨Nat.le.intro hbc, Nat.le.intro hbs⟩) hW (fun r562 u561 h9 H locs hW => ?_)
  replace h := h9
  clear h9
  refine lv_iload hx hb dL_law_759 (lv_at hl 1 rfl) ?_
  refine lv_icmp_eq (tgt := 766) hx hb dL_law_761 (by decide) (fun hc563 => ?_) (fun hc563 => ?_)
  · have h := h.1 hc563
    refine lv_iload hx hb dL_law_766 (lv_at hl 1 rfl) ?_
    refine lv_if_ne (tgt := 783) hx hb dL_law_768 (by decide) (fun hc564 => ?_) (fun hc564 => ?_)
    · have h := h.2 hc564
      exact t_L_law_783 F J23 hJ23 v1 v2 v3 v4 (mc - c557) (ms - b558) u561 _ _ _ _ _ h hW (lv_sub hl [2, 3, 4, 5, 6] rfl) hbc hbs
    · have h := h.1 hc564
      refine lv_aload_n hx hb dL_law_771 rfl (lv_at hl 5 rfl) ?_
      refine lv_iconst (v := (0 : Int32)) hx hb dL_law_772 (by decide) ?_
      refine rJald F.1 hW h.1 h.2.1 dL_law_773 ?_
      replace h := h.2.2
      refine lv_iload hx hb dL_law_774 (lv_at hl 0 rfl) ?_
      refine lv_i2l hx hb dL_law_776 rfl ?_
      refine W.lcmp hx hb dL_law_777 ?_
      refine lv_if_eq (tgt := 783) hx hb dL_law_778 (by decide) (fun hc565 => ?_) (fun hc565 => ?_)
      · have h := h.1 hc565
        exact t_L_law_783 F J23 hJ23 v1 v2 v3 v4 (mc - c557) (ms - b558) u561 _ _ _ _ _ h hW (lv_sub hl [2, 3, 4, 5, 6] rfl) hbc hbs
      · have h := h.2 hc565
        refine lv_iconst (v := (0 : Int32)) hx hb dL_law_781 (by decide) ?_
        exact h.elim
  · have h := h.2 hc563
    refine lv_iconst (v := (0 : Int32)) hx hb dL_law_764 (by decide) ?_
    exact h.elim
set_option maxHeartbeats 4000000 in
set_option maxRecDepth 100000 in
theorem t_L_law_786 {p : Program} {l : Launch} {e : Env} {s : State} {m : MethodId} {below : List Frame} {meth : Method} {c : Code} {G : Ctx} {b L : Nat} {xs : Nat → Int32} (F : Lx p l s m meth c G b L xs) (J23 : Nat → Nat → Nat → Int32 → Nat → Nat → Mem → Prop) (hJ23 : ∀ (v1 : Nat) (v2 : Nat) (v3 : Nat) (v4 : Int32) (mc ms : Nat) (u : Mem) (H : Heap) (locs : List Loc) (cells slots : Nat) (ls : Array Slot), J23 v1 v2 v3 v4 mc ms u → Wd G u s H locs → lv_has ls 7 [(0, .ref b), (1, .ref v1), (2, .ref v2), (3, .ref v3), (4, .int v4)] → cells + mc = 601024 → slots + ms = 7293034 → W p l e room_1 s m #[Value.ref b] below meth c H locs cells slots (lw_Z below #[Value.ref b] s) (F0 m 23 ls [])) : ∀ (v1 : Nat) (v2 : Nat) (v3 : Nat) (v4 : Int32) (mc ms : Nat) (u : Mem) (H : Heap) (locs : List Loc) (cells slots : Nat) (ls : Array Slot), w_L_law_786 G L xs J23 v1 v2 v3 v4 mc ms u → Wd G u s H locs → lv_has ls 7 [(0, .ref b), (1, .ref v1), (2, .ref v2), (3, .ref v3), (4, .int v4)] → cells + mc = 601024 → slots + ms = 7293034 → W p l e room_1 s m #[Value.ref b] below meth c H locs cells slots (lw_Z below #[Value.ref b] s) (F0 m 786 ls []) := by
  have hx := F.1.1.1
  have hb := F.1.1.2.1
  intro v1 v2 v3 v4 mc ms u H locs cells slots ls h hW hl hbc hbs
  unfold w_L_law_786 at h
  refine lv_aload_n hx hb dL_law_786 rfl (lv_at hl 1 rfl) ?_
  obtain ⟨hob, h⟩ := h
  refine cI (runV (n := 0) (As := []) (rest := []) F.1 hW (c_X5_walks F.1.2.2.2 G v1 u _ h) hob (ci := 6) rfl q_468 q_469 q_470 q_2 q_471 rfl (by decide +kernel) ⟨Nat.le_of_ble_eq_true rfl, Nat.le_of_ble_eq_true rfl⟩ dL_law_787 rfl hl.1 (Nat.le_of_ble_eq_true rfl) ⟨Nat.le.intro hbc, Nat.le.intro hbs⟩) hW (fun r567 u566 h9 H locs hW => ?_)
  replace h := h9
  clear h9
  refine lv_aload_n hx hb dL_law_790 rfl (lv_at hl 2 rfl) ?_
  obtain ⟨hob, h⟩ := h
  refine cI (runV (n := 0) (As := []) (rest := [.int r567]) F.1 hW (c_X6_walks F.1.2.2.2 G v2 u566 _ h) hob (ci := 7) rfl q_472 q_473 q_474 q_5 q_475 rfl (by decide +kernel) ⟨Nat.le_of_ble_eq_true rfl, Nat.le_of_ble_eq_true rfl⟩ dL_law_791 rfl hl.1 (Nat.le_of_ble_eq_true rfl) ⟨Nat.le.intro hbc, Nat.le.intro hbs⟩) hW (fun r569 u568 h9 H locs hW => ?_)
  replace h := h9
  clear h9
  refine lv_icmp_eq (tgt := 1347) hx hb dL_law_794 (by decide) (fun hc570 => ?_) (fun hc570 => ?_)
  · have h := h.1 hc570
    exact t_L_law_1347 F J23 hJ23 v1 v2 v3 v4 mc ms u568 _ _ _ _ _ h hW (lv_sub hl [0, 1, 2, 3, 4] rfl) hbc hbs
  · have h := h.2 hc570
    refine lv_iconst (v := (0 : Int32)) hx hb dL_law_797 (by decide) ?_
    exact h.elim
set_option maxHeartbeats 4000000 in
set_option maxRecDepth 100000 in
theorem t_L_law_852 {p : Program} {l : Launch} {e : Env} {s : State} {m : MethodId} {below : List Frame} {meth : Method} {c : Code} {G : Ctx} {b L : Nat} {xs : Nat → Int32} (F : Lx p l s m meth c G b L xs) (J23 : Nat → Nat → Nat → Int32 → Nat → Nat → Mem → Prop) (hJ23 : ∀ (v1 : Nat) (v2 : Nat) (v3 : Nat) (v4 : Int32) (mc ms : Nat) (u : Mem) (H : Heap) (locs : List Loc) (cells slots : Nat) (ls : Array Slot), J23 v1 v2 v3 v4 mc ms u → Wd G u s H locs → lv_has ls 7 [(0, .ref b), (1, .ref v1), (2, .ref v2), (3, .ref v3), (4, .int v4)] → cells + mc = 601024 → slots + ms = 7293034 → W p l e room_1 s m #[Value.ref b] below meth c H locs cells slots (lw_Z below #[Value.ref b] s) (F0 m 23 ls [])) : ∀ (v1 : Nat) (v2 : Nat) (v3 : Nat) (v4 : Int32) (mc ms : Nat) (u : Mem) (H : Heap) (locs : List Loc) (cells slots : Nat) (ls : Array Slot), w_L_law_852 G L xs J23 v1 v2 v3 v4 mc ms u → Wd G u s H locs → lv_has ls 7 [(0, .ref b), (1, .ref v1), (2, .ref v2), (3, .ref v3), (4, .int v4)] → cells + mc = 601024 → slots + ms = 7293034 → W p l e room_1 s m #[Value.ref b] below meth c H locs cells slots (lw_Z below #[Value.ref b] s) (F0 m 852 ls []) := by
  have hx := F.1.1.1
  have hb := F.1.1.2.1
  intro v1 v2 v3 v4 mc ms u H locs cells slots ls h hW hl hbc hbs
  unfold w_L_law_852 at h
  refine lv_goto (tgt := 1347) hx hb dL_law_852 (by decide) ?_
  exact t_L_law_1347 F J23 hJ23 v1 v2 v3 v4 mc ms u _ _ _ _ _ h hW (lv_sub hl [0, 1, 2, 3, 4] rfl) hbc hbs
set_option maxHeartbeats 4000000 in
set_option maxRecDepth 100000 in
theorem t_L_law_799 {p : Program} {l : Launch} {e : Env} {s : State} {m : MethodId} {below : List Frame} {meth : Method} {c : Code} {G : Ctx} {b L : Nat} {xs : Nat → Int32} (F : Lx p l s m meth c G b L xs) (J23 : Nat → Nat → Nat → Int32 → Nat → Nat → Mem → Prop) (hJ23 : ∀ (v1 : Nat) (v2 : Nat) (v3 : Nat) (v4 : Int32) (mc ms : Nat) (u : Mem) (H : Heap) (locs : List Loc) (cells slots : Nat) (ls : Array Slot), J23 v1 v2 v3 v4 mc ms u → Wd G u s H locs → lv_has ls 7 [(0, .ref b), (1, .ref v1), (2, .ref v2), (3, .ref v3), (4, .int v4)] → cells + mc = 601024 → slots + ms = 7293034 → W p l e room_1 s m #[Value.ref b] below meth c H locs cells slots (lw_Z below #[Value.ref b] s) (F0 m 23 ls [])) : ∀ (v1 : Nat) (v2 : Nat) (v3 : Nat) (v4 : Int32) (mc ms : Nat) (u : Mem) (H : Heap) (locs : List Loc) (cells slots : Nat) (ls : Array Slot), w_L_law_799 G L xs J23 v1 v2 v3 v4 mc ms u → Wd G u s H locs → lv_has ls 7 [(0, .ref b), (1, .ref v1), (2, .ref v2), (3, .ref v3), (4, .int v4)] → cells + mc = 601024 → slots + ms = 7293034 → W p l e room_1 s m #[Value.ref b] below meth c H locs cells slots (lw_Z below #[Value.ref b] s) (F0 m 799 ls []) := by
  have hx := F.1.1.1
  have hb := F.1.1.2.1
  intro v1 v2 v3 v4 mc ms u H locs cells slots ls h hW hl hbc hbs
  unfold w_L_law_799 at h
  refine lv_aload_n hx hb dL_law_799 rfl (lv_at hl 1 rfl) ?_
  refine lv_aload_n hx hb dL_law_800 rfl (lv_at hl 0 rfl) ?_
  refine lv_iload hx hb dL_law_801 (lv_at hl 4 rfl) ?_
  refine lv_iconst (v := (1 : Int32)) hx hb dL_law_803 (by decide) ?_
  refine lv_iadd hx hb dL_law_804 ?_
  refine va_sld hx hb F.2.1 F.2.2.1 F.2.2.2.1 hW.2 h.1 dL_law_805 ?_
  replace h := h.2
  refine lv_aload_n hx hb dL_law_806 rfl (lv_at hl 3 rfl) ?_
  obtain ⟨c573, b574, h1, h2, h⟩ := h
  have hf1 := bdf hbc h1
  have hf2 := bdf hbs h2
  refine cI (runSW (n := 3) (As := [.ref v1, .int (xs (v4 + (1 : Int32)).toNatClampNeg), .ref v3]) (rest := []) F.1 hW (c_L_state F.1.2.2.2 G v1 (xs (v4 + (1 : Int32)).toNatClampNeg) v3 c573 b574 u _ h) q_476 q_477 q_94 q_478 (by decide +kernel) ⟨Nat.le_of_ble_eq_true rfl, Nat.le_of_ble_eq_true rfl⟩ dL_law_807 rfl hl.1 (Nat.le_of_ble_eq_true rfl) ⟨hf1, hf2⟩) hW (fun r572 u571 h9 H locs hW => ?_)
  replace h := h9
  clear h9
  replace hbc := bdg hbc h1
  replace hbs := bdg hbs h2
  clear h1 h2 hf1 hf2
  refine lv_istore (lv' := [(5, .int r572), (0, .ref b), (1, .ref v1), (2, .ref v2), (3, .ref v3), (4, .int v4)]) hx hb dL_law_810 hl (by decide) rfl (fun ls hl9 => ?_)
  replace hl := hl9
  clear hl9
  refine lv_aload_n hx hb dL_law_812 rfl (lv_at hl 3 rfl) ?_
  refine lv_aload_n hx hb dL_law_813 rfl (lv_at hl 1 rfl) ?_
  refine lv_iload hx hb dL_law_814 (lv_at hl 5 rfl) ?_
  refine lv_iconst (v := (1 : Int32)) hx hb dL_law_816 (by decide) ?_
  refine lv_iadd hx hb dL_law_817 ?_
  refine va_sld hx hb F.2.1 F.2.2.1 F.2.2.2.1 hW.2 h.1 dL_law_818 ?_
  replace h := h.2
  obtain ⟨hob, h⟩ := h
  refine cI (runV (n := 1) (As := [.int (xs (v4 + (1 : Int32)).toNatClampNeg)]) (rest := []) F.1 hW (c_X6_state F.1.2.2.2 G v2 (xs (v4 + (1 : Int32)).toNatClampNeg) u571 _ h) hob (ci := 7) rfl q_483 q_484 q_485 q_5 q_486 rfl (by decide +kernel) ⟨Nat.le_of_ble_eq_true rfl, Nat.le_of_ble_eq_true rfl⟩ dL_law_819 rfl hl.1 (Nat.le_of_ble_eq_true rfl) ⟨Nat.le.intro hbc, Nat.le.intro hbs⟩) hW (fun r576 u575 h9 H locs hW => ?_)
  replace h := h9
  clear h9
  refine lv_istore (lv' := [(6, .int r576), (5, .int r572), (0, .ref b), (1, .ref v1), (2, .ref v2), (3, .ref v3), (4, .int v4)]) hx hb dL_law_822 hl (by decide) rfl (fun ls hl9 => ?_)
  replace hl := hl9
  clear hl9
  refine lv_aload_n hx hb dL_law_824 rfl (lv_at hl 4 rfl) ?_
  obtain ⟨hob, h⟩ := h
  refine cI (runV (n := 0) (As := []) (rest := []) F.1 hW (c_X6_thrown F.1.2.2.2 G v2 u575 _ h) hob (ci := 7) rfl q_130 q_131 q_132 q_5 q_133 rfl (by decide +kernel) ⟨Nat.le_of_ble_eq_true rfl, Nat.le_of_ble_eq_true rfl⟩ dL_law_825 rfl hl.1 (Nat.le_of_ble_eq_true rfl) ⟨Nat.le.intro hbc, Nat.le.intro hbs⟩) hW (fun r578 u577 h9 H locs hW => ?_)
  replace h := h9
  clear h9
  refine lv_iload hx hb dL_law_828 (lv_at hl 1 rfl) ?_
  refine lv_icmp_eq (tgt := 835) hx hb dL_law_830 (by decide) (fun hc579 => ?_) (fun hc579 => ?_)
  · have h := h.1 hc579
    refine lv_iload hx hb dL_law_835 (lv_at hl 1 rfl) ?_
    refine lv_if_ne (tgt := 852) hx hb dL_law_837 (by decide) (fun hc580 => ?_) (fun hc580 => ?_)
    · have h := h.2 hc580
      exact t_L_law_852 F J23 hJ23 v1 v2 v3 v4 (mc - c573) (ms - b574) u577 _ _ _ _ _ h hW (lv_sub hl [2, 3, 4, 5, 6] rfl) hbc hbs
    · have h := h.1 hc580
      refine lv_aload_n hx hb dL_law_840 rfl (lv_at hl 5 rfl) ?_
      refine lv_iconst (v := (0 : Int32)) hx hb dL_law_841 (by decide) ?_
      refine rJald F.1 hW h.1 h.2.1 dL_law_842 ?_
      replace h := h.2.2
      refine lv_iload hx hb dL_law_843 (lv_at hl 0 rfl) ?_
      refine lv_i2l hx hb dL_law_845 rfl ?_
      refine W.lcmp hx hb dL_law_846 ?_
      refine lv_if_eq (tgt := 852) hx hb dL_law_847 (by decide) (fun hc581 => ?_) (fun hc581 => ?_)
      · have h := h.1 hc581
        exact t_L_law_852 F J23 hJ23 v1 v2 v3 v4 (mc - c573) (ms - b574) u577 _ _ _ _ _ h hW (lv_sub hl [2, 3, 4, 5, 6] rfl) hbc hbs
      · have h := h.2 hc581
        refine lv_iconst (v := (0 : Int32)) hx hb dL_law_850 (by decide) ?_
        exact h.elim
  · have h := h.2 hc579
    refine lv_iconst (v := (0 : Int32)) hx hb dL_law_833 (by decide) ?_
    exact h.elim
set_option maxHeartbeats 4000000 in
set_option maxRecDepth 100000 in
theorem t_L_law_908 {p : Program} {l : Launch} {e : Env} {s : State} {m : MethodId} {below : List Frame} {meth : Method} {c : Code} {G : Ctx} {b L : Nat} {xs : Nat → Int32} (F : Lx p l s m meth c G b L xs) (J23 : Nat → Nat → Nat → Int32 → Nat → Nat → Mem → Prop) (hJ23 : ∀ (v1 : Nat) (v2 : Nat) (v3 : Nat) (v4 : Int32) (mc ms : Nat) (u : Mem) (H : Heap) (locs : List Loc) (cells slots : Nat) (ls : Array Slot), J23 v1 v2 v3 v4 mc ms u → Wd G u s H locs → lv_has ls 7 [(0, .ref b), (1, .ref v1), (2, .ref v2), (3, .ref v3), (4, .int v4)] → cells + mc = 601024 → slots + ms = 7293034 → W p l e room_1 s m #[Value.ref b] below meth c H locs cells slots (lw_Z below #[Value.ref b] s) (F0 m 23 ls [])) : ∀ (v1 : Nat) (v2 : Nat) (v3 : Nat) (v4 : Int32) (mc ms : Nat) (u : Mem) (H : Heap) (locs : List Loc) (cells slots : Nat) (ls : Array Slot), w_L_law_908 G L xs J23 v1 v2 v3 v4 mc ms u → Wd G u s H locs → lv_has ls 7 [(0, .ref b), (1, .ref v1), (2, .ref v2), (3, .ref v3), (4, .int v4)] → cells + mc = 601024 → slots + ms = 7293034 → W p l e room_1 s m #[Value.ref b] below meth c H locs cells slots (lw_Z below #[Value.ref b] s) (F0 m 908 ls []) := by
  have hx := F.1.1.1
  have hb := F.1.1.2.1
  intro v1 v2 v3 v4 mc ms u H locs cells slots ls h hW hl hbc hbs
  unfold w_L_law_908 at h
  refine lv_goto (tgt := 1347) hx hb dL_law_908 (by decide) ?_
  exact t_L_law_1347 F J23 hJ23 v1 v2 v3 v4 mc ms u _ _ _ _ _ h hW (lv_sub hl [0, 1, 2, 3, 4] rfl) hbc hbs
set_option maxHeartbeats 4000000 in
set_option maxRecDepth 100000 in
theorem t_L_law_855 {p : Program} {l : Launch} {e : Env} {s : State} {m : MethodId} {below : List Frame} {meth : Method} {c : Code} {G : Ctx} {b L : Nat} {xs : Nat → Int32} (F : Lx p l s m meth c G b L xs) (J23 : Nat → Nat → Nat → Int32 → Nat → Nat → Mem → Prop) (hJ23 : ∀ (v1 : Nat) (v2 : Nat) (v3 : Nat) (v4 : Int32) (mc ms : Nat) (u : Mem) (H : Heap) (locs : List Loc) (cells slots : Nat) (ls : Array Slot), J23 v1 v2 v3 v4 mc ms u → Wd G u s H locs → lv_has ls 7 [(0, .ref b), (1, .ref v1), (2, .ref v2), (3, .ref v3), (4, .int v4)] → cells + mc = 601024 → slots + ms = 7293034 → W p l e room_1 s m #[Value.ref b] below meth c H locs cells slots (lw_Z below #[Value.ref b] s) (F0 m 23 ls [])) : ∀ (v1 : Nat) (v2 : Nat) (v3 : Nat) (v4 : Int32) (mc ms : Nat) (u : Mem) (H : Heap) (locs : List Loc) (cells slots : Nat) (ls : Array Slot), w_L_law_855 G L xs J23 v1 v2 v3 v4 mc ms u → Wd G u s H locs → lv_has ls 7 [(0, .ref b), (1, .ref v1), (2, .ref v2), (3, .ref v3), (4, .int v4)] → cells + mc = 601024 → slots + ms = 7293034 → W p l e room_1 s m #[Value.ref b] below meth c H locs cells slots (lw_Z below #[Value.ref b] s) (F0 m 855 ls []) := by
  have hx := F.1.1.1
  have hb := F.1.1.2.1
  intro v1 v2 v3 v4 mc ms u H locs cells slots ls h hW hl hbc hbs
  unfold w_L_law_855 at h
  refine lv_aload_n hx hb dL_law_855 rfl (lv_at hl 1 rfl) ?_
  refine lv_aload_n hx hb dL_law_856 rfl (lv_at hl 0 rfl) ?_
  refine lv_iload hx hb dL_law_857 (lv_at hl 4 rfl) ?_
  refine lv_iconst (v := (1 : Int32)) hx hb dL_law_859 (by decide) ?_
  refine lv_iadd hx hb dL_law_860 ?_
  refine va_sld hx hb F.2.1 F.2.2.1 F.2.2.2.1 hW.2 h.1 dL_law_861 ?_
  replace h := h.2
  refine lv_aload_n hx hb dL_law_862 rfl (lv_at hl 3 rfl) ?_
  obtain ⟨c584, b585, h1, h2, h⟩ := h
  have hf1 := bdf hbc h1
  have hf2 := bdf hbs h2
  refine cI (runSW (n := 3) (As := [.ref v1, .int (xs (v4 + (1 : Int32)).toNatClampNeg), .ref v3]) (rest := []) F.1 hW (c_L_escortOf F.1.2.2.2 G v1 (xs (v4 + (1 : Int32)).toNatClampNeg) v3 c584 b585 u _ h) q_487 q_488 q_94 q_489 (by decide +kernel) ⟨Nat.le_of_ble_eq_true rfl, Nat.le_of_ble_eq_true rfl⟩ dL_law_863 rfl hl.1 (Nat.le_of_ble_eq_true rfl) ⟨hf1, hf2⟩) hW (fun r583 u582 h9 H locs hW => ?_)
  replace h := h9
  clear h9
  replace hbc := bdg hbc h1
  replace hbs := bdg hbs h2
  clear h1 h2 hf1 hf2
  refine lv_istore (lv' := [(5, .int r583), (0, .ref b), (1, .ref v1), (2, .ref v2), (3, .ref v3), (4, .int v4)]) hx hb dL_law_866 hl (by decide) rfl (fun ls hl9 => ?_)
  replace hl := hl9
  clear hl9
  refine lv_aload_n hx hb dL_law_868 rfl (lv_at hl 3 rfl) ?_
  refine lv_aload_n hx hb dL_law_869 rfl (lv_at hl 1 rfl) ?_
  refine lv_iload hx hb dL_law_870 (lv_at hl 5 rfl) ?_
  refine lv_iconst (v := (1 : Int32)) hx hb dL_law_872 (by decide) ?_
  refine lv_iadd hx hb dL_law_873 ?_
  refine va_sld hx hb F.2.1 F.2.2.1 F.2.2.2.1 hW.2 h.1 dL_law_874 ?_
  replace h := h.2
  obtain ⟨hob, h⟩ := h
  refine cI (runV (n := 1) (As := [.int (xs (v4 + (1 : Int32)).toNatClampNeg)]) (rest := []) F.1 hW (c_X6_escortOf F.1.2.2.2 G v2 (xs (v4 + (1 : Int32)).toNatClampNeg) u582 _ h) hob (ci := 7) rfl q_494 q_495 q_496 q_5 q_497 rfl (by decide +kernel) ⟨Nat.le_of_ble_eq_true rfl, Nat.le_of_ble_eq_true rfl⟩ dL_law_875 rfl hl.1 (Nat.le_of_ble_eq_true rfl) ⟨Nat.le.intro hbc, Nat.le.intro hbs⟩) hW (fun r587 u586 h9 H locs hW => ?_)
  replace h := h9
  clear h9
  refine lv_istore (lv' := [(6, .int r587), (5, .int r583), (0, .ref b), (1, .ref v1), (2, .ref v2), (3, .ref v3), (4, .int v4)]) hx hb dL_law_878 hl (by decide) rfl (fun ls hl9 => ?_)
  replace hl := hl9
  clear hl9
  refine lv_aload_n hx hb dL_law_880 rfl (lv_at hl 4 rfl) ?_
  obtain ⟨hob, h⟩ := h
  refine cI (runV (n := 0) (As := []) (rest := []) F.1 hW (c_X6_thrown F.1.2.2.2 G v2 u586 _ h) hob (ci := 7) rfl q_130 q_131 q_132 q_5 q_133 rfl (by decide +kernel) ⟨Nat.le_of_ble_eq_true rfl, Nat.le_of_ble_eq_true rfl⟩ dL_law_881 rfl hl.1 (Nat.le_of_ble_eq_true rfl) ⟨Nat.le.intro hbc, Nat.le.intro hbs⟩) hW (fun r589 u588 h9 H locs hW => ?_)
  replace h := h9
  clear h9
  refine lv_iload hx hb dL_law_884 (lv_at hl 1 rfl) ?_
  refine lv_icmp_eq (tgt := 891) hx hb dL_law_886 (by decide) (fun hc590 => ?_) (fun hc590 => ?_)
  · have h := h.1 hc590
    refine lv_iload hx hb dL_law_891 (lv_at hl 1 rfl) ?_
    refine lv_if_ne (tgt := 908) hx hb dL_law_893 (by decide) (fun hc591 => ?_) (fun hc591 => ?_)
    · have h := h.2 hc591
      exact t_L_law_908 F J23 hJ23 v1 v2 v3 v4 (mc - c584) (ms - b585) u588 _ _ _ _ _ h hW (lv_sub hl [2, 3, 4, 5, 6] rfl) hbc hbs
    · have h := h.1 hc591
      refine lv_aload_n hx hb dL_law_896 rfl (lv_at hl 5 rfl) ?_
      refine lv_iconst (v := (0 : Int32)) hx hb dL_law_897 (by decide) ?_
      refine rJald F.1 hW h.1 h.2.1 dL_law_898 ?_
      replace h := h.2.2
      refine lv_iload hx hb dL_law_899 (lv_at hl 0 rfl) ?_
      refine lv_i2l hx hb dL_law_901 rfl ?_
      refine W.lcmp hx hb dL_law_902 ?_
      refine lv_if_eq (tgt := 908) hx hb dL_law_903 (by decide) (fun hc592 => ?_) (fun hc592 => ?_)
      · have h := h.1 hc592
        exact t_L_law_908 F J23 hJ23 v1 v2 v3 v4 (mc - c584) (ms - b585) u588 _ _ _ _ _ h hW (lv_sub hl [2, 3, 4, 5, 6] rfl) hbc hbs
      · have h := h.2 hc592
        refine lv_iconst (v := (0 : Int32)) hx hb dL_law_906 (by decide) ?_
        exact h.elim
  · have h := h.2 hc590
    refine lv_iconst (v := (0 : Int32)) hx hb dL_law_889 (by decide) ?_
    exact h.elim
set_option maxHeartbeats 4000000 in
set_option maxRecDepth 100000 in
theorem t_L_law_964 {p : Program} {l : Launch} {e : Env} {s : State} {m : MethodId} {below : List Frame} {meth : Method} {c : Code} {G : Ctx} {b L : Nat} {xs : Nat → Int32} (F : Lx p l s m meth c G b L xs) (J23 : Nat → Nat → Nat → Int32 → Nat → Nat → Mem → Prop) (hJ23 : ∀ (v1 : Nat) (v2 : Nat) (v3 : Nat) (v4 : Int32) (mc ms : Nat) (u : Mem) (H : Heap) (locs : List Loc) (cells slots : Nat) (ls : Array Slot), J23 v1 v2 v3 v4 mc ms u → Wd G u s H locs → lv_has ls 7 [(0, .ref b), (1, .ref v1), (2, .ref v2), (3, .ref v3), (4, .int v4)] → cells + mc = 601024 → slots + ms = 7293034 → W p l e room_1 s m #[Value.ref b] below meth c H locs cells slots (lw_Z below #[Value.ref b] s) (F0 m 23 ls [])) : ∀ (v1 : Nat) (v2 : Nat) (v3 : Nat) (v4 : Int32) (mc ms : Nat) (u : Mem) (H : Heap) (locs : List Loc) (cells slots : Nat) (ls : Array Slot), w_L_law_964 G L xs J23 v1 v2 v3 v4 mc ms u → Wd G u s H locs → lv_has ls 7 [(0, .ref b), (1, .ref v1), (2, .ref v2), (3, .ref v3), (4, .int v4)] → cells + mc = 601024 → slots + ms = 7293034 → W p l e room_1 s m #[Value.ref b] below meth c H locs cells slots (lw_Z below #[Value.ref b] s) (F0 m 964 ls []) := by
  have hx := F.1.1.1
  have hb := F.1.1.2.1
  intro v1 v2 v3 v4 mc ms u H locs cells slots ls h hW hl hbc hbs
  unfold w_L_law_964 at h
  refine lv_goto (tgt := 1347) hx hb dL_law_964 (by decide) ?_
  exact t_L_law_1347 F J23 hJ23 v1 v2 v3 v4 mc ms u _ _ _ _ _ h hW (lv_sub hl [0, 1, 2, 3, 4] rfl) hbc hbs
set_option maxHeartbeats 4000000 in
set_option maxRecDepth 100000 in
theorem t_L_law_911 {p : Program} {l : Launch} {e : Env} {s : State} {m : MethodId} {below : List Frame} {meth : Method} {c : Code} {G : Ctx} {b L : Nat} {xs : Nat → Int32} (F : Lx p l s m meth c G b L xs) (J23 : Nat → Nat → Nat → Int32 → Nat → Nat → Mem → Prop) (hJ23 : ∀ (v1 : Nat) (v2 : Nat) (v3 : Nat) (v4 : Int32) (mc ms : Nat) (u : Mem) (H : Heap) (locs : List Loc) (cells slots : Nat) (ls : Array Slot), J23 v1 v2 v3 v4 mc ms u → Wd G u s H locs → lv_has ls 7 [(0, .ref b), (1, .ref v1), (2, .ref v2), (3, .ref v3), (4, .int v4)] → cells + mc = 601024 → slots + ms = 7293034 → W p l e room_1 s m #[Value.ref b] below meth c H locs cells slots (lw_Z below #[Value.ref b] s) (F0 m 23 ls [])) : ∀ (v1 : Nat) (v2 : Nat) (v3 : Nat) (v4 : Int32) (mc ms : Nat) (u : Mem) (H : Heap) (locs : List Loc) (cells slots : Nat) (ls : Array Slot), w_L_law_911 G L xs J23 v1 v2 v3 v4 mc ms u → Wd G u s H locs → lv_has ls 7 [(0, .ref b), (1, .ref v1), (2, .ref v2), (3, .ref v3), (4, .int v4)] → cells + mc = 601024 → slots + ms = 7293034 → W p l e room_1 s m #[Value.ref b] below meth c H locs cells slots (lw_Z below #[Value.ref b] s) (F0 m 911 ls []) := by
  have hx := F.1.1.1
  have hb := F.1.1.2.1
  intro v1 v2 v3 v4 mc ms u H locs cells slots ls h hW hl hbc hbs
  unfold w_L_law_911 at h
  refine lv_aload_n hx hb dL_law_911 rfl (lv_at hl 1 rfl) ?_
  refine lv_aload_n hx hb dL_law_912 rfl (lv_at hl 0 rfl) ?_
  refine lv_iload hx hb dL_law_913 (lv_at hl 4 rfl) ?_
  refine lv_iconst (v := (1 : Int32)) hx hb dL_law_915 (by decide) ?_
  refine lv_iadd hx hb dL_law_916 ?_
  refine va_sld hx hb F.2.1 F.2.2.1 F.2.2.2.1 hW.2 h.1 dL_law_917 ?_
  replace h := h.2
  refine lv_aload_n hx hb dL_law_918 rfl (lv_at hl 3 rfl) ?_
  obtain ⟨c595, b596, h1, h2, h⟩ := h
  have hf1 := bdf hbc h1
  have hf2 := bdf hbs h2
  refine cI (runSW (n := 3) (As := [.ref v1, .int (xs (v4 + (1 : Int32)).toNatClampNeg), .ref v3]) (rest := []) F.1 hW (c_L_dark F.1.2.2.2 G v1 (xs (v4 + (1 : Int32)).toNatClampNeg) v3 c595 b596 u _ h) q_498 q_499 q_94 q_500 (by decide +kernel) ⟨Nat.le_of_ble_eq_true rfl, Nat.le_of_ble_eq_true rfl⟩ dL_law_919 rfl hl.1 (Nat.le_of_ble_eq_true rfl) ⟨hf1, hf2⟩) hW (fun r594 u593 h9 H locs hW => ?_)
  replace h := h9
  clear h9
  replace hbc := bdg hbc h1
  replace hbs := bdg hbs h2
  clear h1 h2 hf1 hf2
  refine lv_istore (lv' := [(5, .int r594), (0, .ref b), (1, .ref v1), (2, .ref v2), (3, .ref v3), (4, .int v4)]) hx hb dL_law_922 hl (by decide) rfl (fun ls hl9 => ?_)
  replace hl := hl9
  clear hl9
  refine lv_aload_n hx hb dL_law_924 rfl (lv_at hl 3 rfl) ?_
  refine lv_aload_n hx hb dL_law_925 rfl (lv_at hl 1 rfl) ?_
  refine lv_iload hx hb dL_law_926 (lv_at hl 5 rfl) ?_
  refine lv_iconst (v := (1 : Int32)) hx hb dL_law_928 (by decide) ?_
  refine lv_iadd hx hb dL_law_929 ?_
  refine va_sld hx hb F.2.1 F.2.2.1 F.2.2.2.1 hW.2 h.1 dL_law_930 ?_
  replace h := h.2
  obtain ⟨hob, h⟩ := h
  refine cI (runV (n := 1) (As := [.int (xs (v4 + (1 : Int32)).toNatClampNeg)]) (rest := []) F.1 hW (c_X6_dark F.1.2.2.2 G v2 (xs (v4 + (1 : Int32)).toNatClampNeg) u593 _ h) hob (ci := 7) rfl q_505 q_506 q_507 q_5 q_508 rfl (by decide +kernel) ⟨Nat.le_of_ble_eq_true rfl, Nat.le_of_ble_eq_true rfl⟩ dL_law_931 rfl hl.1 (Nat.le_of_ble_eq_true rfl) ⟨Nat.le.intro hbc, Nat.le.intro hbs⟩) hW (fun r598 u597 h9 H locs hW => ?_)
  replace h := h9
  clear h9
  refine lv_istore (lv' := [(6, .int r598), (5, .int r594), (0, .ref b), (1, .ref v1), (2, .ref v2), (3, .ref v3), (4, .int v4)]) hx hb dL_law_934 hl (by decide) rfl (fun ls hl9 => ?_)
  replace hl := hl9
  clear hl9
  refine lv_aload_n hx hb dL_law_936 rfl (lv_at hl 4 rfl) ?_
  obtain ⟨hob, h⟩ := h
  refine cI (runV (n := 0) (As := []) (rest := []) F.1 hW (c_X6_thrown F.1.2.2.2 G v2 u597 _ h) hob (ci := 7) rfl q_130 q_131 q_132 q_5 q_133 rfl (by decide +kernel) ⟨Nat.le_of_ble_eq_true rfl, Nat.le_of_ble_eq_true rfl⟩ dL_law_937 rfl hl.1 (Nat.le_of_ble_eq_true rfl) ⟨Nat.le.intro hbc, Nat.le.intro hbs⟩) hW (fun r600 u599 h9 H locs hW => ?_)
  replace h := h9
  clear h9
  refine lv_iload hx hb dL_law_940 (lv_at hl 1 rfl) ?_
  refine lv_icmp_eq (tgt := 947) hx hb dL_law_942 (by decide) (fun hc601 => ?_) (fun hc601 => ?_)
  · have h := h.1 hc601
    refine lv_iload hx hb dL_law_947 (lv_at hl 1 rfl) ?_
    refine lv_if_ne (tgt := 964) hx hb dL_law_949 (by decide) (fun hc602 => ?_) (fun hc602 => ?_)
    · have h := h.2 hc602
      exact t_L_law_964 F J23 hJ23 v1 v2 v3 v4 (mc - c595) (ms - b596) u599 _ _ _ _ _ h hW (lv_sub hl [2, 3, 4, 5, 6] rfl) hbc hbs
    · have h := h.1 hc602
      refine lv_aload_n hx hb dL_law_952 rfl (lv_at hl 5 rfl) ?_
      refine lv_iconst (v := (0 : Int32)) hx hb dL_law_953 (by decide) ?_
      refine rJald F.1 hW h.1 h.2.1 dL_law_954 ?_
      replace h := h.2.2
      refine lv_iload hx hb dL_law_955 (lv_at hl 0 rfl) ?_
      refine lv_i2l hx hb dL_law_957 rfl ?_
      refine W.lcmp hx hb dL_law_958 ?_
      refine lv_if_eq (tgt := 964) hx hb dL_law_959 (by decide) (fun hc603 => ?_) (fun hc603 => ?_)
      · have h := h.1 hc603
        exact t_L_law_964 F J23 hJ23 v1 v2 v3 v4 (mc - c595) (ms - b596) u599 _ _ _ _ _ h hW (lv_sub hl [2, 3, 4, 5, 6] rfl) hbc hbs
      · have h := h.2 hc603
        refine lv_iconst (v := (0 : Int32)) hx hb dL_law_962 (by decide) ?_
        exact h.elim
  · have h := h.2 hc601
    refine lv_iconst (v := (0 : Int32)) hx hb dL_law_945 (by decide) ?_
    exact h.elim
set_option maxHeartbeats 4000000 in
set_option maxRecDepth 100000 in
theorem t_L_law_1020 {p : Program} {l : Launch} {e : Env} {s : State} {m : MethodId} {below : List Frame} {meth : Method} {c : Code} {G : Ctx} {b L : Nat} {xs : Nat → Int32} (F : Lx p l s m meth c G b L xs) (J23 : Nat → Nat → Nat → Int32 → Nat → Nat → Mem → Prop) (hJ23 : ∀ (v1 : Nat) (v2 : Nat) (v3 : Nat) (v4 : Int32) (mc ms : Nat) (u : Mem) (H : Heap) (locs : List Loc) (cells slots : Nat) (ls : Array Slot), J23 v1 v2 v3 v4 mc ms u → Wd G u s H locs → lv_has ls 7 [(0, .ref b), (1, .ref v1), (2, .ref v2), (3, .ref v3), (4, .int v4)] → cells + mc = 601024 → slots + ms = 7293034 → W p l e room_1 s m #[Value.ref b] below meth c H locs cells slots (lw_Z below #[Value.ref b] s) (F0 m 23 ls [])) : ∀ (v1 : Nat) (v2 : Nat) (v3 : Nat) (v4 : Int32) (mc ms : Nat) (u : Mem) (H : Heap) (locs : List Loc) (cells slots : Nat) (ls : Array Slot), w_L_law_1020 G L xs J23 v1 v2 v3 v4 mc ms u → Wd G u s H locs → lv_has ls 7 [(0, .ref b), (1, .ref v1), (2, .ref v2), (3, .ref v3), (4, .int v4)] → cells + mc = 601024 → slots + ms = 7293034 → W p l e room_1 s m #[Value.ref b] below meth c H locs cells slots (lw_Z below #[Value.ref b] s) (F0 m 1020 ls []) := by
  have hx := F.1.1.1
  have hb := F.1.1.2.1
  intro v1 v2 v3 v4 mc ms u H locs cells slots ls h hW hl hbc hbs
  unfold w_L_law_1020 at h
  refine lv_goto (tgt := 1347) hx hb dL_law_1020 (by decide) ?_
  exact t_L_law_1347 F J23 hJ23 v1 v2 v3 v4 mc ms u _ _ _ _ _ h hW (lv_sub hl [0, 1, 2, 3, 4] rfl) hbc hbs
set_option maxHeartbeats 4000000 in
set_option maxRecDepth 100000 in
theorem t_L_law_967 {p : Program} {l : Launch} {e : Env} {s : State} {m : MethodId} {below : List Frame} {meth : Method} {c : Code} {G : Ctx} {b L : Nat} {xs : Nat → Int32} (F : Lx p l s m meth c G b L xs) (J23 : Nat → Nat → Nat → Int32 → Nat → Nat → Mem → Prop) (hJ23 : ∀ (v1 : Nat) (v2 : Nat) (v3 : Nat) (v4 : Int32) (mc ms : Nat) (u : Mem) (H : Heap) (locs : List Loc) (cells slots : Nat) (ls : Array Slot), J23 v1 v2 v3 v4 mc ms u → Wd G u s H locs → lv_has ls 7 [(0, .ref b), (1, .ref v1), (2, .ref v2), (3, .ref v3), (4, .int v4)] → cells + mc = 601024 → slots + ms = 7293034 → W p l e room_1 s m #[Value.ref b] below meth c H locs cells slots (lw_Z below #[Value.ref b] s) (F0 m 23 ls [])) : ∀ (v1 : Nat) (v2 : Nat) (v3 : Nat) (v4 : Int32) (mc ms : Nat) (u : Mem) (H : Heap) (locs : List Loc) (cells slots : Nat) (ls : Array Slot), w_L_law_967 G L xs J23 v1 v2 v3 v4 mc ms u → Wd G u s H locs → lv_has ls 7 [(0, .ref b), (1, .ref v1), (2, .ref v2), (3, .ref v3), (4, .int v4)] → cells + mc = 601024 → slots + ms = 7293034 → W p l e room_1 s m #[Value.ref b] below meth c H locs cells slots (lw_Z below #[Value.ref b] s) (F0 m 967 ls []) := by
  have hx := F.1.1.1
  have hb := F.1.1.2.1
  intro v1 v2 v3 v4 mc ms u H locs cells slots ls h hW hl hbc hbs
  unfold w_L_law_967 at h
  refine lv_aload_n hx hb dL_law_967 rfl (lv_at hl 1 rfl) ?_
  refine lv_aload_n hx hb dL_law_968 rfl (lv_at hl 0 rfl) ?_
  refine lv_iload hx hb dL_law_969 (lv_at hl 4 rfl) ?_
  refine lv_iconst (v := (1 : Int32)) hx hb dL_law_971 (by decide) ?_
  refine lv_iadd hx hb dL_law_972 ?_
  refine va_sld hx hb F.2.1 F.2.2.1 F.2.2.2.1 hW.2 h.1 dL_law_973 ?_
  replace h := h.2
  refine lv_aload_n hx hb dL_law_974 rfl (lv_at hl 3 rfl) ?_
  obtain ⟨c606, b607, h1, h2, h⟩ := h
  have hf1 := bdf hbc h1
  have hf2 := bdf hbs h2
  refine cI (runSW (n := 3) (As := [.ref v1, .int (xs (v4 + (1 : Int32)).toNatClampNeg), .ref v3]) (rest := []) F.1 hW (c_L_streetOf F.1.2.2.2 G v1 (xs (v4 + (1 : Int32)).toNatClampNeg) v3 c606 b607 u _ h) q_509 q_510 q_94 q_511 (by decide +kernel) ⟨Nat.le_of_ble_eq_true rfl, Nat.le_of_ble_eq_true rfl⟩ dL_law_975 rfl hl.1 (Nat.le_of_ble_eq_true rfl) ⟨hf1, hf2⟩) hW (fun r605 u604 h9 H locs hW => ?_)
  replace h := h9
  clear h9
  replace hbc := bdg hbc h1
  replace hbs := bdg hbs h2
  clear h1 h2 hf1 hf2
  refine lv_istore (lv' := [(5, .int r605), (0, .ref b), (1, .ref v1), (2, .ref v2), (3, .ref v3), (4, .int v4)]) hx hb dL_law_978 hl (by decide) rfl (fun ls hl9 => ?_)
  replace hl := hl9
  clear hl9
  refine lv_aload_n hx hb dL_law_980 rfl (lv_at hl 3 rfl) ?_
  refine lv_aload_n hx hb dL_law_981 rfl (lv_at hl 1 rfl) ?_
  refine lv_iload hx hb dL_law_982 (lv_at hl 5 rfl) ?_
  refine lv_iconst (v := (1 : Int32)) hx hb dL_law_984 (by decide) ?_
  refine lv_iadd hx hb dL_law_985 ?_
  refine va_sld hx hb F.2.1 F.2.2.1 F.2.2.2.1 hW.2 h.1 dL_law_986 ?_
  replace h := h.2
  obtain ⟨hob, h⟩ := h
  refine cI (runV (n := 1) (As := [.int (xs (v4 + (1 : Int32)).toNatClampNeg)]) (rest := []) F.1 hW (c_X6_streetOf F.1.2.2.2 G v2 (xs (v4 + (1 : Int32)).toNatClampNeg) u604 _ h) hob (ci := 7) rfl q_516 q_517 q_518 q_5 q_519 rfl (by decide +kernel) ⟨Nat.le_of_ble_eq_true rfl, Nat.le_of_ble_eq_true rfl⟩ dL_law_987 rfl hl.1 (Nat.le_of_ble_eq_true rfl) ⟨Nat.le.intro hbc, Nat.le.intro hbs⟩) hW (fun r609 u608 h9 H locs hW => ?_)
  replace h := h9
  clear h9
  refine lv_istore (lv' := [(6, .int r609), (5, .int r605), (0, .ref b), (1, .ref v1), (2, .ref v2), (3, .ref v3), (4, .int v4)]) hx hb dL_law_990 hl (by decide) rfl (fun ls hl9 => ?_)
  replace hl := hl9
  clear hl9
  refine lv_aload_n hx hb dL_law_992 rfl (lv_at hl 4 rfl) ?_
  obtain ⟨hob, h⟩ := h
  refine cI (runV (n := 0) (As := []) (rest := []) F.1 hW (c_X6_thrown F.1.2.2.2 G v2 u608 _ h) hob (ci := 7) rfl q_130 q_131 q_132 q_5 q_133 rfl (by decide +kernel) ⟨Nat.le_of_ble_eq_true rfl, Nat.le_of_ble_eq_true rfl⟩ dL_law_993 rfl hl.1 (Nat.le_of_ble_eq_true rfl) ⟨Nat.le.intro hbc, Nat.le.intro hbs⟩) hW (fun r611 u610 h9 H locs hW => ?_)
  replace h := h9
  clear h9
  refine lv_iload hx hb dL_law_996 (lv_at hl 1 rfl) ?_
  refine lv_icmp_eq (tgt := 1003) hx hb dL_law_998 (by decide) (fun hc612 => ?_) (fun hc612 => ?_)
  · have h := h.1 hc612
    refine lv_iload hx hb dL_law_1003 (lv_at hl 1 rfl) ?_
    refine lv_if_ne (tgt := 1020) hx hb dL_law_1005 (by decide) (fun hc613 => ?_) (fun hc613 => ?_)
    · have h := h.2 hc613
      exact t_L_law_1020 F J23 hJ23 v1 v2 v3 v4 (mc - c606) (ms - b607) u610 _ _ _ _ _ h hW (lv_sub hl [2, 3, 4, 5, 6] rfl) hbc hbs
    · have h := h.1 hc613
      refine lv_aload_n hx hb dL_law_1008 rfl (lv_at hl 5 rfl) ?_
      refine lv_iconst (v := (0 : Int32)) hx hb dL_law_1009 (by decide) ?_
      refine rJald F.1 hW h.1 h.2.1 dL_law_1010 ?_
      replace h := h.2.2
      refine lv_iload hx hb dL_law_1011 (lv_at hl 0 rfl) ?_
      refine lv_i2l hx hb dL_law_1013 rfl ?_
      refine W.lcmp hx hb dL_law_1014 ?_
      refine lv_if_eq (tgt := 1020) hx hb dL_law_1015 (by decide) (fun hc614 => ?_) (fun hc614 => ?_)
      · have h := h.1 hc614
        exact t_L_law_1020 F J23 hJ23 v1 v2 v3 v4 (mc - c606) (ms - b607) u610 _ _ _ _ _ h hW (lv_sub hl [2, 3, 4, 5, 6] rfl) hbc hbs
      · have h := h.2 hc614
        refine lv_iconst (v := (0 : Int32)) hx hb dL_law_1018 (by decide) ?_
        exact h.elim
  · have h := h.2 hc612
    refine lv_iconst (v := (0 : Int32)) hx hb dL_law_1001 (by decide) ?_
    exact h.elim
set_option maxHeartbeats 4000000 in
set_option maxRecDepth 100000 in
theorem t_L_law_1076 {p : Program} {l : Launch} {e : Env} {s : State} {m : MethodId} {below : List Frame} {meth : Method} {c : Code} {G : Ctx} {b L : Nat} {xs : Nat → Int32} (F : Lx p l s m meth c G b L xs) (J23 : Nat → Nat → Nat → Int32 → Nat → Nat → Mem → Prop) (hJ23 : ∀ (v1 : Nat) (v2 : Nat) (v3 : Nat) (v4 : Int32) (mc ms : Nat) (u : Mem) (H : Heap) (locs : List Loc) (cells slots : Nat) (ls : Array Slot), J23 v1 v2 v3 v4 mc ms u → Wd G u s H locs → lv_has ls 7 [(0, .ref b), (1, .ref v1), (2, .ref v2), (3, .ref v3), (4, .int v4)] → cells + mc = 601024 → slots + ms = 7293034 → W p l e room_1 s m #[Value.ref b] below meth c H locs cells slots (lw_Z below #[Value.ref b] s) (F0 m 23 ls [])) : ∀ (v1 : Nat) (v2 : Nat) (v3 : Nat) (v4 : Int32) (mc ms : Nat) (u : Mem) (H : Heap) (locs : List Loc) (cells slots : Nat) (ls : Array Slot), w_L_law_1076 G L xs J23 v1 v2 v3 v4 mc ms u → Wd G u s H locs → lv_has ls 7 [(0, .ref b), (1, .ref v1), (2, .ref v2), (3, .ref v3), (4, .int v4)] → cells + mc = 601024 → slots + ms = 7293034 → W p l e room_1 s m #[Value.ref b] below meth c H locs cells slots (lw_Z below #[Value.ref b] s) (F0 m 1076 ls []) := by
  have hx := F.1.1.1
  have hb := F.1.1.2.1
  intro v1 v2 v3 v4 mc ms u H locs cells slots ls h hW hl hbc hbs
  unfold w_L_law_1076 at h
  refine lv_goto (tgt := 1347) hx hb dL_law_1076 (by decide) ?_
  exact t_L_law_1347 F J23 hJ23 v1 v2 v3 v4 mc ms u _ _ _ _ _ h hW (lv_sub hl [0, 1, 2, 3, 4] rfl) hbc hbs
set_option maxHeartbeats 4000000 in
set_option maxRecDepth 100000 in
theorem t_L_law_1023 {p : Program} {l : Launch} {e : Env} {s : State} {m : MethodId} {below : List Frame} {meth : Method} {c : Code} {G : Ctx} {b L : Nat} {xs : Nat → Int32} (F : Lx p l s m meth c G b L xs) (J23 : Nat → Nat → Nat → Int32 → Nat → Nat → Mem → Prop) (hJ23 : ∀ (v1 : Nat) (v2 : Nat) (v3 : Nat) (v4 : Int32) (mc ms : Nat) (u : Mem) (H : Heap) (locs : List Loc) (cells slots : Nat) (ls : Array Slot), J23 v1 v2 v3 v4 mc ms u → Wd G u s H locs → lv_has ls 7 [(0, .ref b), (1, .ref v1), (2, .ref v2), (3, .ref v3), (4, .int v4)] → cells + mc = 601024 → slots + ms = 7293034 → W p l e room_1 s m #[Value.ref b] below meth c H locs cells slots (lw_Z below #[Value.ref b] s) (F0 m 23 ls [])) : ∀ (v1 : Nat) (v2 : Nat) (v3 : Nat) (v4 : Int32) (mc ms : Nat) (u : Mem) (H : Heap) (locs : List Loc) (cells slots : Nat) (ls : Array Slot), w_L_law_1023 G L xs J23 v1 v2 v3 v4 mc ms u → Wd G u s H locs → lv_has ls 7 [(0, .ref b), (1, .ref v1), (2, .ref v2), (3, .ref v3), (4, .int v4)] → cells + mc = 601024 → slots + ms = 7293034 → W p l e room_1 s m #[Value.ref b] below meth c H locs cells slots (lw_Z below #[Value.ref b] s) (F0 m 1023 ls []) := by
  have hx := F.1.1.1
  have hb := F.1.1.2.1
  intro v1 v2 v3 v4 mc ms u H locs cells slots ls h hW hl hbc hbs
  unfold w_L_law_1023 at h
  refine lv_aload_n hx hb dL_law_1023 rfl (lv_at hl 1 rfl) ?_
  refine lv_aload_n hx hb dL_law_1024 rfl (lv_at hl 0 rfl) ?_
  refine lv_iload hx hb dL_law_1025 (lv_at hl 4 rfl) ?_
  refine lv_iconst (v := (1 : Int32)) hx hb dL_law_1027 (by decide) ?_
  refine lv_iadd hx hb dL_law_1028 ?_
  refine va_sld hx hb F.2.1 F.2.2.1 F.2.2.2.1 hW.2 h.1 dL_law_1029 ?_
  replace h := h.2
  refine lv_aload_n hx hb dL_law_1030 rfl (lv_at hl 3 rfl) ?_
  obtain ⟨c617, b618, h1, h2, h⟩ := h
  have hf1 := bdf hbc h1
  have hf2 := bdf hbs h2
  refine cI (runSW (n := 3) (As := [.ref v1, .int (xs (v4 + (1 : Int32)).toNatClampNeg), .ref v3]) (rest := []) F.1 hW (c_L_rank F.1.2.2.2 G v1 (xs (v4 + (1 : Int32)).toNatClampNeg) v3 c617 b618 u _ h) q_520 q_521 q_94 q_522 (by decide +kernel) ⟨Nat.le_of_ble_eq_true rfl, Nat.le_of_ble_eq_true rfl⟩ dL_law_1031 rfl hl.1 (Nat.le_of_ble_eq_true rfl) ⟨hf1, hf2⟩) hW (fun r616 u615 h9 H locs hW => ?_)
  replace h := h9
  clear h9
  replace hbc := bdg hbc h1
  replace hbs := bdg hbs h2
  clear h1 h2 hf1 hf2
  refine lv_istore (lv' := [(5, .int r616), (0, .ref b), (1, .ref v1), (2, .ref v2), (3, .ref v3), (4, .int v4)]) hx hb dL_law_1034 hl (by decide) rfl (fun ls hl9 => ?_)
  replace hl := hl9
  clear hl9
  refine lv_aload_n hx hb dL_law_1036 rfl (lv_at hl 3 rfl) ?_
  refine lv_aload_n hx hb dL_law_1037 rfl (lv_at hl 1 rfl) ?_
  refine lv_iload hx hb dL_law_1038 (lv_at hl 5 rfl) ?_
  refine lv_iconst (v := (1 : Int32)) hx hb dL_law_1040 (by decide) ?_
  refine lv_iadd hx hb dL_law_1041 ?_
  refine va_sld hx hb F.2.1 F.2.2.1 F.2.2.2.1 hW.2 h.1 dL_law_1042 ?_
  replace h := h.2
  obtain ⟨hob, h⟩ := h
  refine cI (runV (n := 1) (As := [.int (xs (v4 + (1 : Int32)).toNatClampNeg)]) (rest := []) F.1 hW (c_X6_rank F.1.2.2.2 G v2 (xs (v4 + (1 : Int32)).toNatClampNeg) u615 _ h) hob (ci := 7) rfl q_527 q_528 q_529 q_5 q_530 rfl (by decide +kernel) ⟨Nat.le_of_ble_eq_true rfl, Nat.le_of_ble_eq_true rfl⟩ dL_law_1043 rfl hl.1 (Nat.le_of_ble_eq_true rfl) ⟨Nat.le.intro hbc, Nat.le.intro hbs⟩) hW (fun r620 u619 h9 H locs hW => ?_)
  replace h := h9
  clear h9
  refine lv_istore (lv' := [(6, .int r620), (5, .int r616), (0, .ref b), (1, .ref v1), (2, .ref v2), (3, .ref v3), (4, .int v4)]) hx hb dL_law_1046 hl (by decide) rfl (fun ls hl9 => ?_)
  replace hl := hl9
  clear hl9
  refine lv_aload_n hx hb dL_law_1048 rfl (lv_at hl 4 rfl) ?_
  obtain ⟨hob, h⟩ := h
  refine cI (runV (n := 0) (As := []) (rest := []) F.1 hW (c_X6_thrown F.1.2.2.2 G v2 u619 _ h) hob (ci := 7) rfl q_130 q_131 q_132 q_5 q_133 rfl (by decide +kernel) ⟨Nat.le_of_ble_eq_true rfl, Nat.le_of_ble_eq_true rfl⟩ dL_law_1049 rfl hl.1 (Nat.le_of_ble_eq_true rfl) ⟨Nat.le.intro hbc, Nat.le.intro hbs⟩) hW (fun r622 u621 h9 H locs hW => ?_)
  replace h := h9
  clear h9
  refine lv_iload hx hb dL_law_1052 (lv_at hl 1 rfl) ?_
  refine lv_icmp_eq (tgt := 1059) hx hb dL_law_1054 (by decide) (fun hc623 => ?_) (fun hc623 => ?_)
  · have h := h.1 hc623
    refine lv_iload hx hb dL_law_1059 (lv_at hl 1 rfl) ?_
    refine lv_if_ne (tgt := 1076) hx hb dL_law_1061 (by decide) (fun hc624 => ?_) (fun hc624 => ?_)
    · have h := h.2 hc624
      exact t_L_law_1076 F J23 hJ23 v1 v2 v3 v4 (mc - c617) (ms - b618) u621 _ _ _ _ _ h hW (lv_sub hl [2, 3, 4, 5, 6] rfl) hbc hbs
    · have h := h.1 hc624
      refine lv_aload_n hx hb dL_law_1064 rfl (lv_at hl 5 rfl) ?_
      refine lv_iconst (v := (0 : Int32)) hx hb dL_law_1065 (by decide) ?_
      refine rJald F.1 hW h.1 h.2.1 dL_law_1066 ?_
      replace h := h.2.2
      refine lv_iload hx hb dL_law_1067 (lv_at hl 0 rfl) ?_
      refine lv_i2l hx hb dL_law_1069 rfl ?_
      refine W.lcmp hx hb dL_law_1070 ?_
      refine lv_if_eq (tgt := 1076) hx hb dL_law_1071 (by decide) (fun hc625 => ?_) (fun hc625 => ?_)
      · have h := h.1 hc625
        exact t_L_law_1076 F J23 hJ23 v1 v2 v3 v4 (mc - c617) (ms - b618) u621 _ _ _ _ _ h hW (lv_sub hl [2, 3, 4, 5, 6] rfl) hbc hbs
      · have h := h.2 hc625
        refine lv_iconst (v := (0 : Int32)) hx hb dL_law_1074 (by decide) ?_
        exact h.elim
  · have h := h.2 hc623
    refine lv_iconst (v := (0 : Int32)) hx hb dL_law_1057 (by decide) ?_
    exact h.elim
set_option maxHeartbeats 4000000 in
set_option maxRecDepth 100000 in
theorem t_L_law_1144 {p : Program} {l : Launch} {e : Env} {s : State} {m : MethodId} {below : List Frame} {meth : Method} {c : Code} {G : Ctx} {b L : Nat} {xs : Nat → Int32} (F : Lx p l s m meth c G b L xs) (J23 : Nat → Nat → Nat → Int32 → Nat → Nat → Mem → Prop) (hJ23 : ∀ (v1 : Nat) (v2 : Nat) (v3 : Nat) (v4 : Int32) (mc ms : Nat) (u : Mem) (H : Heap) (locs : List Loc) (cells slots : Nat) (ls : Array Slot), J23 v1 v2 v3 v4 mc ms u → Wd G u s H locs → lv_has ls 7 [(0, .ref b), (1, .ref v1), (2, .ref v2), (3, .ref v3), (4, .int v4)] → cells + mc = 601024 → slots + ms = 7293034 → W p l e room_1 s m #[Value.ref b] below meth c H locs cells slots (lw_Z below #[Value.ref b] s) (F0 m 23 ls [])) : ∀ (v1 : Nat) (v2 : Nat) (v3 : Nat) (v4 : Int32) (mc ms : Nat) (u : Mem) (H : Heap) (locs : List Loc) (cells slots : Nat) (ls : Array Slot), w_L_law_1144 G L xs J23 v1 v2 v3 v4 mc ms u → Wd G u s H locs → lv_has ls 7 [(0, .ref b), (1, .ref v1), (2, .ref v2), (3, .ref v3), (4, .int v4)] → cells + mc = 601024 → slots + ms = 7293034 → W p l e room_1 s m #[Value.ref b] below meth c H locs cells slots (lw_Z below #[Value.ref b] s) (F0 m 1144 ls []) := by
  have hx := F.1.1.1
  have hb := F.1.1.2.1
  intro v1 v2 v3 v4 mc ms u H locs cells slots ls h hW hl hbc hbs
  unfold w_L_law_1144 at h
  refine lv_goto (tgt := 1347) hx hb dL_law_1144 (by decide) ?_
  exact t_L_law_1347 F J23 hJ23 v1 v2 v3 v4 mc ms u _ _ _ _ _ h hW (lv_sub hl [0, 1, 2, 3, 4] rfl) hbc hbs
set_option maxHeartbeats 4000000 in
set_option maxRecDepth 100000 in
theorem t_L_law_1079 {p : Program} {l : Launch} {e : Env} {s : State} {m : MethodId} {below : List Frame} {meth : Method} {c : Code} {G : Ctx} {b L : Nat} {xs : Nat → Int32} (F : Lx p l s m meth c G b L xs) (J23 : Nat → Nat → Nat → Int32 → Nat → Nat → Mem → Prop) (hJ23 : ∀ (v1 : Nat) (v2 : Nat) (v3 : Nat) (v4 : Int32) (mc ms : Nat) (u : Mem) (H : Heap) (locs : List Loc) (cells slots : Nat) (ls : Array Slot), J23 v1 v2 v3 v4 mc ms u → Wd G u s H locs → lv_has ls 7 [(0, .ref b), (1, .ref v1), (2, .ref v2), (3, .ref v3), (4, .int v4)] → cells + mc = 601024 → slots + ms = 7293034 → W p l e room_1 s m #[Value.ref b] below meth c H locs cells slots (lw_Z below #[Value.ref b] s) (F0 m 23 ls [])) : ∀ (v1 : Nat) (v2 : Nat) (v3 : Nat) (v4 : Int32) (mc ms : Nat) (u : Mem) (H : Heap) (locs : List Loc) (cells slots : Nat) (ls : Array Slot), w_L_law_1079 G L xs J23 v1 v2 v3 v4 mc ms u → Wd G u s H locs → lv_has ls 7 [(0, .ref b), (1, .ref v1), (2, .ref v2), (3, .ref v3), (4, .int v4)] → cells + mc = 601024 → slots + ms = 7293034 → W p l e room_1 s m #[Value.ref b] below meth c H locs cells slots (lw_Z below #[Value.ref b] s) (F0 m 1079 ls []) := by
  have hx := F.1.1.1
  have hb := F.1.1.2.1
  intro v1 v2 v3 v4 mc ms u H locs cells slots ls h hW hl hbc hbs
  unfold w_L_law_1079 at h
  refine lv_aload_n hx hb dL_law_1079 rfl (lv_at hl 1 rfl) ?_
  refine lv_aload_n hx hb dL_law_1080 rfl (lv_at hl 0 rfl) ?_
  refine lv_iload hx hb dL_law_1081 (lv_at hl 4 rfl) ?_
  refine lv_iconst (v := (1 : Int32)) hx hb dL_law_1083 (by decide) ?_
  refine lv_iadd hx hb dL_law_1084 ?_
  refine va_sld hx hb F.2.1 F.2.2.1 F.2.2.2.1 hW.2 h.1 dL_law_1085 ?_
  replace h := h.2
  refine lv_aload_n hx hb dL_law_1086 rfl (lv_at hl 0 rfl) ?_
  refine lv_iload hx hb dL_law_1087 (lv_at hl 4 rfl) ?_
  refine lv_iconst (v := (2 : Int32)) hx hb dL_law_1089 (by decide) ?_
  refine lv_iadd hx hb dL_law_1090 ?_
  refine va_sld hx hb F.2.1 F.2.2.1 F.2.2.2.1 hW.2 h.1 dL_law_1091 ?_
  replace h := h.2
  refine lv_aload_n hx hb dL_law_1092 rfl (lv_at hl 3 rfl) ?_
  obtain ⟨c628, b629, h1, h2, h⟩ := h
  have hf1 := bdf hbc h1
  have hf2 := bdf hbs h2
  refine cI (runSW (n := 4) (As := [.ref v1, .int (xs (v4 + (1 : Int32)).toNatClampNeg), .int (xs (v4 + (2 : Int32)).toNatClampNeg), .ref v3]) (rest := []) F.1 hW (c_L_way F.1.2.2.2 G v1 (xs (v4 + (1 : Int32)).toNatClampNeg) (xs (v4 + (2 : Int32)).toNatClampNeg) v3 c628 b629 u _ h) q_531 q_532 q_94 q_533 (by decide +kernel) ⟨Nat.le_of_ble_eq_true rfl, Nat.le_of_ble_eq_true rfl⟩ dL_law_1093 rfl hl.1 (Nat.le_of_ble_eq_true rfl) ⟨hf1, hf2⟩) hW (fun r627 u626 h9 H locs hW => ?_)
  replace h := h9
  clear h9
  replace hbc := bdg hbc h1
  replace hbs := bdg hbs h2
  clear h1 h2 hf1 hf2
  refine lv_istore (lv' := [(5, .int r627), (0, .ref b), (1, .ref v1), (2, .ref v2), (3, .ref v3), (4, .int v4)]) hx hb dL_law_1096 hl (by decide) rfl (fun ls hl9 => ?_)
  replace hl := hl9
  clear hl9
  refine lv_aload_n hx hb dL_law_1098 rfl (lv_at hl 3 rfl) ?_
  refine lv_aload_n hx hb dL_law_1099 rfl (lv_at hl 1 rfl) ?_
  refine lv_iload hx hb dL_law_1100 (lv_at hl 5 rfl) ?_
  refine lv_iconst (v := (1 : Int32)) hx hb dL_law_1102 (by decide) ?_
  refine lv_iadd hx hb dL_law_1103 ?_
  refine va_sld hx hb F.2.1 F.2.2.1 F.2.2.2.1 hW.2 h.1 dL_law_1104 ?_
  replace h := h.2
  refine lv_aload_n hx hb dL_law_1105 rfl (lv_at hl 1 rfl) ?_
  refine lv_iload hx hb dL_law_1106 (lv_at hl 5 rfl) ?_
  refine lv_iconst (v := (2 : Int32)) hx hb dL_law_1108 (by decide) ?_
  refine lv_iadd hx hb dL_law_1109 ?_
  refine va_sld hx hb F.2.1 F.2.2.1 F.2.2.2.1 hW.2 h.1 dL_law_1110 ?_
  replace h := h.2
  obtain ⟨hob, h⟩ := h
  refine cI (runV (n := 2) (As := [.int (xs (v4 + (1 : Int32)).toNatClampNeg), .int (xs (v4 + (2 : Int32)).toNatClampNeg)]) (rest := []) F.1 hW (c_X6_way F.1.2.2.2 G v2 (xs (v4 + (1 : Int32)).toNatClampNeg) (xs (v4 + (2 : Int32)).toNatClampNeg) u626 _ h) hob (ci := 7) rfl q_538 q_539 q_540 q_5 q_541 rfl (by decide +kernel) ⟨Nat.le_of_ble_eq_true rfl, Nat.le_of_ble_eq_true rfl⟩ dL_law_1111 rfl hl.1 (Nat.le_of_ble_eq_true rfl) ⟨Nat.le.intro hbc, Nat.le.intro hbs⟩) hW (fun r631 u630 h9 H locs hW => ?_)
  replace h := h9
  clear h9
  refine lv_istore (lv' := [(6, .int r631), (5, .int r627), (0, .ref b), (1, .ref v1), (2, .ref v2), (3, .ref v3), (4, .int v4)]) hx hb dL_law_1114 hl (by decide) rfl (fun ls hl9 => ?_)
  replace hl := hl9
  clear hl9
  refine lv_aload_n hx hb dL_law_1116 rfl (lv_at hl 4 rfl) ?_
  obtain ⟨hob, h⟩ := h
  refine cI (runV (n := 0) (As := []) (rest := []) F.1 hW (c_X6_thrown F.1.2.2.2 G v2 u630 _ h) hob (ci := 7) rfl q_130 q_131 q_132 q_5 q_133 rfl (by decide +kernel) ⟨Nat.le_of_ble_eq_true rfl, Nat.le_of_ble_eq_true rfl⟩ dL_law_1117 rfl hl.1 (Nat.le_of_ble_eq_true rfl) ⟨Nat.le.intro hbc, Nat.le.intro hbs⟩) hW (fun r633 u632 h9 H locs hW => ?_)
  replace h := h9
  clear h9
  refine lv_iload hx hb dL_law_1120 (lv_at hl 1 rfl) ?_
  refine lv_icmp_eq (tgt := 1127) hx hb dL_law_1122 (by decide) (fun hc634 => ?_) (fun hc634 => ?_)
  · have h := h.1 hc634
    refine lv_iload hx hb dL_law_1127 (lv_at hl 1 rfl) ?_
    refine lv_if_ne (tgt := 1144) hx hb dL_law_1129 (by decide) (fun hc635 => ?_) (fun hc635 => ?_)
    · have h := h.2 hc635
      exact t_L_law_1144 F J23 hJ23 v1 v2 v3 v4 (mc - c628) (ms - b629) u632 _ _ _ _ _ h hW (lv_sub hl [2, 3, 4, 5, 6] rfl) hbc hbs
    · have h := h.1 hc635
      refine lv_aload_n hx hb dL_law_1132 rfl (lv_at hl 5 rfl) ?_
      refine lv_iconst (v := (0 : Int32)) hx hb dL_law_1133 (by decide) ?_
      refine rJald F.1 hW h.1 h.2.1 dL_law_1134 ?_
      replace h := h.2.2
      refine lv_iload hx hb dL_law_1135 (lv_at hl 0 rfl) ?_
      refine lv_i2l hx hb dL_law_1137 rfl ?_
      refine W.lcmp hx hb dL_law_1138 ?_
      refine lv_if_eq (tgt := 1144) hx hb dL_law_1139 (by decide) (fun hc636 => ?_) (fun hc636 => ?_)
      · have h := h.1 hc636
        exact t_L_law_1144 F J23 hJ23 v1 v2 v3 v4 (mc - c628) (ms - b629) u632 _ _ _ _ _ h hW (lv_sub hl [2, 3, 4, 5, 6] rfl) hbc hbs
      · have h := h.2 hc636
        refine lv_iconst (v := (0 : Int32)) hx hb dL_law_1142 (by decide) ?_
        exact h.elim
  · have h := h.2 hc634
    refine lv_iconst (v := (0 : Int32)) hx hb dL_law_1125 (by decide) ?_
    exact h.elim
set_option maxHeartbeats 4000000 in
set_option maxRecDepth 100000 in
theorem t_L_law_1147 {p : Program} {l : Launch} {e : Env} {s : State} {m : MethodId} {below : List Frame} {meth : Method} {c : Code} {G : Ctx} {b L : Nat} {xs : Nat → Int32} (F : Lx p l s m meth c G b L xs) (J23 : Nat → Nat → Nat → Int32 → Nat → Nat → Mem → Prop) (hJ23 : ∀ (v1 : Nat) (v2 : Nat) (v3 : Nat) (v4 : Int32) (mc ms : Nat) (u : Mem) (H : Heap) (locs : List Loc) (cells slots : Nat) (ls : Array Slot), J23 v1 v2 v3 v4 mc ms u → Wd G u s H locs → lv_has ls 7 [(0, .ref b), (1, .ref v1), (2, .ref v2), (3, .ref v3), (4, .int v4)] → cells + mc = 601024 → slots + ms = 7293034 → W p l e room_1 s m #[Value.ref b] below meth c H locs cells slots (lw_Z below #[Value.ref b] s) (F0 m 23 ls [])) : ∀ (v1 : Nat) (v2 : Nat) (v3 : Nat) (v4 : Int32) (mc ms : Nat) (u : Mem) (H : Heap) (locs : List Loc) (cells slots : Nat) (ls : Array Slot), w_L_law_1147 G L xs J23 v1 v2 v3 v4 mc ms u → Wd G u s H locs → lv_has ls 7 [(0, .ref b), (1, .ref v1), (2, .ref v2), (3, .ref v3), (4, .int v4)] → cells + mc = 601024 → slots + ms = 7293034 → W p l e room_1 s m #[Value.ref b] below meth c H locs cells slots (lw_Z below #[Value.ref b] s) (F0 m 1147 ls []) := by
  have hx := F.1.1.1
  have hb := F.1.1.2.1
  intro v1 v2 v3 v4 mc ms u H locs cells slots ls h hW hl hbc hbs
  unfold w_L_law_1147 at h
  refine lv_aload_n hx hb dL_law_1147 rfl (lv_at hl 1 rfl) ?_
  obtain ⟨hob, h⟩ := h
  refine cI (runV (n := 0) (As := []) (rest := []) F.1 hW (c_X5_pictures F.1.2.2.2 G v1 u _ h) hob (ci := 6) rfl q_542 q_543 q_544 q_2 q_545 rfl (by decide +kernel) ⟨Nat.le_of_ble_eq_true rfl, Nat.le_of_ble_eq_true rfl⟩ dL_law_1148 rfl hl.1 (Nat.le_of_ble_eq_true rfl) ⟨Nat.le.intro hbc, Nat.le.intro hbs⟩) hW (fun r638 u637 h9 H locs hW => ?_)
  replace h := h9
  clear h9
  refine lv_aload_n hx hb dL_law_1151 rfl (lv_at hl 2 rfl) ?_
  obtain ⟨hob, h⟩ := h
  refine cI (runV (n := 0) (As := []) (rest := [.int r638]) F.1 hW (c_X6_pictures F.1.2.2.2 G v2 u637 _ h) hob (ci := 7) rfl q_550 q_551 q_552 q_5 q_553 rfl (by decide +kernel) ⟨Nat.le_of_ble_eq_true rfl, Nat.le_of_ble_eq_true rfl⟩ dL_law_1152 rfl hl.1 (Nat.le_of_ble_eq_true rfl) ⟨Nat.le.intro hbc, Nat.le.intro hbs⟩) hW (fun r640 u639 h9 H locs hW => ?_)
  replace h := h9
  clear h9
  refine lv_icmp_eq (tgt := 1347) hx hb dL_law_1155 (by decide) (fun hc641 => ?_) (fun hc641 => ?_)
  · have h := h.1 hc641
    exact t_L_law_1347 F J23 hJ23 v1 v2 v3 v4 mc ms u639 _ _ _ _ _ h hW (lv_sub hl [0, 1, 2, 3, 4] rfl) hbc hbs
  · have h := h.2 hc641
    refine lv_iconst (v := (0 : Int32)) hx hb dL_law_1158 (by decide) ?_
    exact h.elim
set_option maxHeartbeats 4000000 in
set_option maxRecDepth 100000 in
theorem t_L_law_1244 {p : Program} {l : Launch} {e : Env} {s : State} {m : MethodId} {below : List Frame} {meth : Method} {c : Code} {G : Ctx} {b L : Nat} {xs : Nat → Int32} (F : Lx p l s m meth c G b L xs) (J23 : Nat → Nat → Nat → Int32 → Nat → Nat → Mem → Prop) (hJ23 : ∀ (v1 : Nat) (v2 : Nat) (v3 : Nat) (v4 : Int32) (mc ms : Nat) (u : Mem) (H : Heap) (locs : List Loc) (cells slots : Nat) (ls : Array Slot), J23 v1 v2 v3 v4 mc ms u → Wd G u s H locs → lv_has ls 7 [(0, .ref b), (1, .ref v1), (2, .ref v2), (3, .ref v3), (4, .int v4)] → cells + mc = 601024 → slots + ms = 7293034 → W p l e room_1 s m #[Value.ref b] below meth c H locs cells slots (lw_Z below #[Value.ref b] s) (F0 m 23 ls [])) : ∀ (v1 : Nat) (v2 : Nat) (v3 : Nat) (v4 : Int32) (mc ms : Nat) (u : Mem) (H : Heap) (locs : List Loc) (cells slots : Nat) (ls : Array Slot), w_L_law_1244 G L xs J23 v1 v2 v3 v4 mc ms u → Wd G u s H locs → lv_has ls 7 [(0, .ref b), (1, .ref v1), (2, .ref v2), (3, .ref v3), (4, .int v4)] → cells + mc = 601024 → slots + ms = 7293034 → W p l e room_1 s m #[Value.ref b] below meth c H locs cells slots (lw_Z below #[Value.ref b] s) (F0 m 1244 ls []) := by
  have hx := F.1.1.1
  have hb := F.1.1.2.1
  intro v1 v2 v3 v4 mc ms u H locs cells slots ls h hW hl hbc hbs
  unfold w_L_law_1244 at h
  refine lv_goto (tgt := 1347) hx hb dL_law_1244 (by decide) ?_
  exact t_L_law_1347 F J23 hJ23 v1 v2 v3 v4 mc ms u _ _ _ _ _ h hW (lv_sub hl [0, 1, 2, 3, 4] rfl) hbc hbs
set_option maxHeartbeats 4000000 in
set_option maxRecDepth 100000 in
theorem t_L_law_1238 {p : Program} {l : Launch} {e : Env} {s : State} {m : MethodId} {below : List Frame} {meth : Method} {c : Code} {G : Ctx} {b L : Nat} {xs : Nat → Int32} (F : Lx p l s m meth c G b L xs) (J23 : Nat → Nat → Nat → Int32 → Nat → Nat → Mem → Prop) (hJ23 : ∀ (v1 : Nat) (v2 : Nat) (v3 : Nat) (v4 : Int32) (mc ms : Nat) (u : Mem) (H : Heap) (locs : List Loc) (cells slots : Nat) (ls : Array Slot), J23 v1 v2 v3 v4 mc ms u → Wd G u s H locs → lv_has ls 7 [(0, .ref b), (1, .ref v1), (2, .ref v2), (3, .ref v3), (4, .int v4)] → cells + mc = 601024 → slots + ms = 7293034 → W p l e room_1 s m #[Value.ref b] below meth c H locs cells slots (lw_Z below #[Value.ref b] s) (F0 m 23 ls [])) : ∀ (v1 : Nat) (v2 : Nat) (v3 : Nat) (v4 : Int32) (s0 : Int64) (s1 : Int64) (mc ms : Nat) (u : Mem) (H : Heap) (locs : List Loc) (cells slots : Nat) (ls : Array Slot), w_L_law_1238 G L xs J23 v1 v2 v3 v4 s0 s1 mc ms u → Wd G u s H locs → lv_has ls 7 [(0, .ref b), (1, .ref v1), (2, .ref v2), (3, .ref v3), (4, .int v4)] → cells + mc = 601024 → slots + ms = 7293034 → W p l e room_1 s m #[Value.ref b] below meth c H locs cells slots (lw_Z below #[Value.ref b] s) (F0 m 1238 ls [.long s0, .long s1]) := by
  have hx := F.1.1.1
  have hb := F.1.1.2.1
  intro v1 v2 v3 v4 s0 s1 mc ms u H locs cells slots ls h hW hl hbc hbs
  unfold w_L_law_1238 at h
  refine W.lcmp hx hb dL_law_1238 ?_
  refine lv_if_eq (tgt := 1244) hx hb dL_law_1239 (by decide) (fun hc642 => ?_) (fun hc642 => ?_)
  · have h := h.1 hc642
    exact t_L_law_1244 F J23 hJ23 v1 v2 v3 v4 mc ms u _ _ _ _ _ h hW (lv_sub hl [0, 1, 2, 3, 4] rfl) hbc hbs
  · have h := h.2 hc642
    refine lv_iconst (v := (0 : Int32)) hx hb dL_law_1242 (by decide) ?_
    exact h.elim
set_option maxHeartbeats 4000000 in
set_option maxRecDepth 100000 in
theorem t_L_law_1160 {p : Program} {l : Launch} {e : Env} {s : State} {m : MethodId} {below : List Frame} {meth : Method} {c : Code} {G : Ctx} {b L : Nat} {xs : Nat → Int32} (F : Lx p l s m meth c G b L xs) (J23 : Nat → Nat → Nat → Int32 → Nat → Nat → Mem → Prop) (hJ23 : ∀ (v1 : Nat) (v2 : Nat) (v3 : Nat) (v4 : Int32) (mc ms : Nat) (u : Mem) (H : Heap) (locs : List Loc) (cells slots : Nat) (ls : Array Slot), J23 v1 v2 v3 v4 mc ms u → Wd G u s H locs → lv_has ls 7 [(0, .ref b), (1, .ref v1), (2, .ref v2), (3, .ref v3), (4, .int v4)] → cells + mc = 601024 → slots + ms = 7293034 → W p l e room_1 s m #[Value.ref b] below meth c H locs cells slots (lw_Z below #[Value.ref b] s) (F0 m 23 ls [])) : ∀ (v1 : Nat) (v2 : Nat) (v3 : Nat) (v4 : Int32) (mc ms : Nat) (u : Mem) (H : Heap) (locs : List Loc) (cells slots : Nat) (ls : Array Slot), w_L_law_1160 G L xs J23 v1 v2 v3 v4 mc ms u → Wd G u s H locs → lv_has ls 7 [(0, .ref b), (1, .ref v1), (2, .ref v2), (3, .ref v3), (4, .int v4)] → cells + mc = 601024 → slots + ms = 7293034 → W p l e room_1 s m #[Value.ref b] below meth c H locs cells slots (lw_Z below #[Value.ref b] s) (F0 m 1160 ls []) := by
  have hx := F.1.1.1
  have hb := F.1.1.2.1
  intro v1 v2 v3 v4 mc ms u H locs cells slots ls h hW hl hbc hbs
  unfold w_L_law_1160 at h
  refine lv_aload_n hx hb dL_law_1160 rfl (lv_at hl 1 rfl) ?_
  refine lv_aload_n hx hb dL_law_1161 rfl (lv_at hl 0 rfl) ?_
  refine lv_iload hx hb dL_law_1162 (lv_at hl 4 rfl) ?_
  refine lv_iconst (v := (1 : Int32)) hx hb dL_law_1164 (by decide) ?_
  refine lv_iadd hx hb dL_law_1165 ?_
  refine va_sld hx hb F.2.1 F.2.2.1 F.2.2.2.1 hW.2 h.1 dL_law_1166 ?_
  replace h := h.2
  refine lv_aload_n hx hb dL_law_1167 rfl (lv_at hl 0 rfl) ?_
  refine lv_iload hx hb dL_law_1168 (lv_at hl 4 rfl) ?_
  refine lv_iconst (v := (2 : Int32)) hx hb dL_law_1170 (by decide) ?_
  refine lv_iadd hx hb dL_law_1171 ?_
  refine va_sld hx hb F.2.1 F.2.2.1 F.2.2.2.1 hW.2 h.1 dL_law_1172 ?_
  replace h := h.2
  refine lv_aload_n hx hb dL_law_1173 rfl (lv_at hl 0 rfl) ?_
  refine lv_iload hx hb dL_law_1174 (lv_at hl 4 rfl) ?_
  refine lv_iconst (v := (3 : Int32)) hx hb dL_law_1176 (by decide) ?_
  refine lv_iadd hx hb dL_law_1177 ?_
  refine va_sld hx hb F.2.1 F.2.2.1 F.2.2.2.1 hW.2 h.1 dL_law_1178 ?_
  replace h := h.2
  refine lv_aload_n hx hb dL_law_1179 rfl (lv_at hl 3 rfl) ?_
  obtain ⟨c645, b646, h1, h2, h⟩ := h
  have hf1 := bdf hbc h1
  have hf2 := bdf hbs h2
  refine cI (runSW (n := 5) (As := [.ref v1, .int (xs (v4 + (1 : Int32)).toNatClampNeg), .int (xs (v4 + (2 : Int32)).toNatClampNeg), .int (xs (v4 + (3 : Int32)).toNatClampNeg), .ref v3]) (rest := []) F.1 hW (c_L_shows F.1.2.2.2 G v1 (xs (v4 + (1 : Int32)).toNatClampNeg) (xs (v4 + (2 : Int32)).toNatClampNeg) (xs (v4 + (3 : Int32)).toNatClampNeg) v3 c645 b646 u _ h) q_554 q_555 q_94 q_556 (by decide +kernel) ⟨Nat.le_of_ble_eq_true rfl, Nat.le_of_ble_eq_true rfl⟩ dL_law_1180 rfl hl.1 (Nat.le_of_ble_eq_true rfl) ⟨hf1, hf2⟩) hW (fun r644 u643 h9 H locs hW => ?_)
  replace h := h9
  clear h9
  replace hbc := bdg hbc h1
  replace hbs := bdg hbs h2
  clear h1 h2 hf1 hf2
  refine lv_istore (lv' := [(5, .int r644), (0, .ref b), (1, .ref v1), (2, .ref v2), (3, .ref v3), (4, .int v4)]) hx hb dL_law_1183 hl (by decide) rfl (fun ls hl9 => ?_)
  replace hl := hl9
  clear hl9
  refine lv_aload_n hx hb dL_law_1185 rfl (lv_at hl 3 rfl) ?_
  refine lv_aload_n hx hb dL_law_1186 rfl (lv_at hl 1 rfl) ?_
  refine lv_iload hx hb dL_law_1187 (lv_at hl 5 rfl) ?_
  refine lv_iconst (v := (1 : Int32)) hx hb dL_law_1189 (by decide) ?_
  refine lv_iadd hx hb dL_law_1190 ?_
  refine va_sld hx hb F.2.1 F.2.2.1 F.2.2.2.1 hW.2 h.1 dL_law_1191 ?_
  replace h := h.2
  refine lv_aload_n hx hb dL_law_1192 rfl (lv_at hl 1 rfl) ?_
  refine lv_iload hx hb dL_law_1193 (lv_at hl 5 rfl) ?_
  refine lv_iconst (v := (2 : Int32)) hx hb dL_law_1195 (by decide) ?_
  refine lv_iadd hx hb dL_law_1196 ?_
  refine va_sld hx hb F.2.1 F.2.2.1 F.2.2.2.1 hW.2 h.1 dL_law_1197 ?_
  replace h := h.2
  refine lv_aload_n hx hb dL_law_1198 rfl (lv_at hl 1 rfl) ?_
  refine lv_iload hx hb dL_law_1199 (lv_at hl 5 rfl) ?_
  refine lv_iconst (v := (3 : Int32)) hx hb dL_law_1201 (by decide) ?_
  refine lv_iadd hx hb dL_law_1202 ?_
  refine va_sld hx hb F.2.1 F.2.2.1 F.2.2.2.1 hW.2 h.1 dL_law_1203 ?_
  replace h := h.2
  obtain ⟨hob, h⟩ := h
  refine cI (runV (n := 3) (As := [.int (xs (v4 + (1 : Int32)).toNatClampNeg), .int (xs (v4 + (2 : Int32)).toNatClampNeg), .int (xs (v4 + (3 : Int32)).toNatClampNeg)]) (rest := []) F.1 hW (c_X6_shows F.1.2.2.2 G v2 (xs (v4 + (1 : Int32)).toNatClampNeg) (xs (v4 + (2 : Int32)).toNatClampNeg) (xs (v4 + (3 : Int32)).toNatClampNeg) u643 _ h) hob (ci := 7) rfl q_562 q_563 q_564 q_5 q_565 rfl (by decide +kernel) ⟨Nat.le_of_ble_eq_true rfl, Nat.le_of_ble_eq_true rfl⟩ dL_law_1204 rfl hl.1 (Nat.le_of_ble_eq_true rfl) ⟨Nat.le.intro hbc, Nat.le.intro hbs⟩) hW (fun r648 u647 h9 H locs hW => ?_)
  replace h := h9
  clear h9
  refine lv_istore (lv' := [(6, .int r648), (5, .int r644), (0, .ref b), (1, .ref v1), (2, .ref v2), (3, .ref v3), (4, .int v4)]) hx hb dL_law_1207 hl (by decide) rfl (fun ls hl9 => ?_)
  replace hl := hl9
  clear hl9
  refine lv_aload_n hx hb dL_law_1209 rfl (lv_at hl 4 rfl) ?_
  obtain ⟨hob, h⟩ := h
  refine cI (runV (n := 0) (As := []) (rest := []) F.1 hW (c_X6_thrown F.1.2.2.2 G v2 u647 _ h) hob (ci := 7) rfl q_130 q_131 q_132 q_5 q_133 rfl (by decide +kernel) ⟨Nat.le_of_ble_eq_true rfl, Nat.le_of_ble_eq_true rfl⟩ dL_law_1210 rfl hl.1 (Nat.le_of_ble_eq_true rfl) ⟨Nat.le.intro hbc, Nat.le.intro hbs⟩) hW (fun r650 u649 h9 H locs hW => ?_)
  replace h := h9
  clear h9
  refine lv_iload hx hb dL_law_1213 (lv_at hl 1 rfl) ?_
  refine lv_icmp_eq (tgt := 1220) hx hb dL_law_1215 (by decide) (fun hc651 => ?_) (fun hc651 => ?_)
  · have h := h.1 hc651
    refine lv_iload hx hb dL_law_1220 (lv_at hl 1 rfl) ?_
    refine lv_if_ne (tgt := 1244) hx hb dL_law_1222 (by decide) (fun hc652 => ?_) (fun hc652 => ?_)
    · have h := h.2 hc652
      exact t_L_law_1244 F J23 hJ23 v1 v2 v3 v4 (mc - c645) (ms - b646) u649 _ _ _ _ _ h hW (lv_sub hl [2, 3, 4, 5, 6] rfl) hbc hbs
    · have h := h.1 hc652
      refine lv_aload_n hx hb dL_law_1225 rfl (lv_at hl 5 rfl) ?_
      refine lv_iconst (v := (0 : Int32)) hx hb dL_law_1226 (by decide) ?_
      refine rJald F.1 hW h.1 h.2.1 dL_law_1227 ?_
      replace h := h.2.2
      refine lv_iload hx hb dL_law_1228 (lv_at hl 0 rfl) ?_
      refine lv_if_eq (tgt := 1237) hx hb dL_law_1230 (by decide) (fun hc653 => ?_) (fun hc653 => ?_)
      · have h := h.1 hc653
        refine lv_lconst (v := (0 : Int64)) hx hb dL_law_1237 (by decide) ?_
        exact t_L_law_1238 F J23 hJ23 v1 v2 v3 v4 (0 : Int64) (mJ u649 v3 (0 : Int32).toNatClampNeg) (mc - c645) (ms - b646) u649 _ _ _ _ _ h hW (lv_sub hl [2, 3, 4, 5, 6] rfl) hbc hbs
      · have h := h.2 hc653
        refine lv_lconst (v := (1 : Int64)) hx hb dL_law_1233 (by decide) ?_
        refine lv_goto (tgt := 1238) hx hb dL_law_1234 (by decide) ?_
        exact t_L_law_1238 F J23 hJ23 v1 v2 v3 v4 (1 : Int64) (mJ u649 v3 (0 : Int32).toNatClampNeg) (mc - c645) (ms - b646) u649 _ _ _ _ _ h hW (lv_sub hl [2, 3, 4, 5, 6] rfl) hbc hbs
  · have h := h.2 hc651
    refine lv_iconst (v := (0 : Int32)) hx hb dL_law_1218 (by decide) ?_
    exact h.elim
set_option maxHeartbeats 4000000 in
set_option maxRecDepth 100000 in
theorem t_L_law_1331 {p : Program} {l : Launch} {e : Env} {s : State} {m : MethodId} {below : List Frame} {meth : Method} {c : Code} {G : Ctx} {b L : Nat} {xs : Nat → Int32} (F : Lx p l s m meth c G b L xs) (J23 : Nat → Nat → Nat → Int32 → Nat → Nat → Mem → Prop) (hJ23 : ∀ (v1 : Nat) (v2 : Nat) (v3 : Nat) (v4 : Int32) (mc ms : Nat) (u : Mem) (H : Heap) (locs : List Loc) (cells slots : Nat) (ls : Array Slot), J23 v1 v2 v3 v4 mc ms u → Wd G u s H locs → lv_has ls 7 [(0, .ref b), (1, .ref v1), (2, .ref v2), (3, .ref v3), (4, .int v4)] → cells + mc = 601024 → slots + ms = 7293034 → W p l e room_1 s m #[Value.ref b] below meth c H locs cells slots (lw_Z below #[Value.ref b] s) (F0 m 23 ls [])) : ∀ (v1 : Nat) (v2 : Nat) (v3 : Nat) (v4 : Int32) (mc ms : Nat) (u : Mem) (H : Heap) (locs : List Loc) (cells slots : Nat) (ls : Array Slot), w_L_law_1331 G L xs J23 v1 v2 v3 v4 mc ms u → Wd G u s H locs → lv_has ls 7 [(0, .ref b), (1, .ref v1), (2, .ref v2), (3, .ref v3), (4, .int v4)] → cells + mc = 601024 → slots + ms = 7293034 → W p l e room_1 s m #[Value.ref b] below meth c H locs cells slots (lw_Z below #[Value.ref b] s) (F0 m 1331 ls []) := by
  have hx := F.1.1.1
  have hb := F.1.1.2.1
  intro v1 v2 v3 v4 mc ms u H locs cells slots ls h hW hl hbc hbs
  unfold w_L_law_1331 at h
  refine lv_goto (tgt := 1347) hx hb dL_law_1331 (by decide) ?_
  exact t_L_law_1347 F J23 hJ23 v1 v2 v3 v4 mc ms u _ _ _ _ _ h hW (lv_sub hl [0, 1, 2, 3, 4] rfl) hbc hbs
set_option maxHeartbeats 4000000 in
set_option maxRecDepth 100000 in
theorem t_L_law_1325 {p : Program} {l : Launch} {e : Env} {s : State} {m : MethodId} {below : List Frame} {meth : Method} {c : Code} {G : Ctx} {b L : Nat} {xs : Nat → Int32} (F : Lx p l s m meth c G b L xs) (J23 : Nat → Nat → Nat → Int32 → Nat → Nat → Mem → Prop) (hJ23 : ∀ (v1 : Nat) (v2 : Nat) (v3 : Nat) (v4 : Int32) (mc ms : Nat) (u : Mem) (H : Heap) (locs : List Loc) (cells slots : Nat) (ls : Array Slot), J23 v1 v2 v3 v4 mc ms u → Wd G u s H locs → lv_has ls 7 [(0, .ref b), (1, .ref v1), (2, .ref v2), (3, .ref v3), (4, .int v4)] → cells + mc = 601024 → slots + ms = 7293034 → W p l e room_1 s m #[Value.ref b] below meth c H locs cells slots (lw_Z below #[Value.ref b] s) (F0 m 23 ls [])) : ∀ (v1 : Nat) (v2 : Nat) (v3 : Nat) (v4 : Int32) (s0 : Int64) (s1 : Int64) (mc ms : Nat) (u : Mem) (H : Heap) (locs : List Loc) (cells slots : Nat) (ls : Array Slot), w_L_law_1325 G L xs J23 v1 v2 v3 v4 s0 s1 mc ms u → Wd G u s H locs → lv_has ls 7 [(0, .ref b), (1, .ref v1), (2, .ref v2), (3, .ref v3), (4, .int v4)] → cells + mc = 601024 → slots + ms = 7293034 → W p l e room_1 s m #[Value.ref b] below meth c H locs cells slots (lw_Z below #[Value.ref b] s) (F0 m 1325 ls [.long s0, .long s1]) := by
  have hx := F.1.1.1
  have hb := F.1.1.2.1
  intro v1 v2 v3 v4 s0 s1 mc ms u H locs cells slots ls h hW hl hbc hbs
  unfold w_L_law_1325 at h
  refine W.lcmp hx hb dL_law_1325 ?_
  refine lv_if_eq (tgt := 1331) hx hb dL_law_1326 (by decide) (fun hc654 => ?_) (fun hc654 => ?_)
  · have h := h.1 hc654
    exact t_L_law_1331 F J23 hJ23 v1 v2 v3 v4 mc ms u _ _ _ _ _ h hW (lv_sub hl [0, 1, 2, 3, 4] rfl) hbc hbs
  · have h := h.2 hc654
    refine lv_iconst (v := (0 : Int32)) hx hb dL_law_1329 (by decide) ?_
    exact h.elim
set_option maxHeartbeats 4000000 in
set_option maxRecDepth 100000 in
theorem t_L_law_1247 {p : Program} {l : Launch} {e : Env} {s : State} {m : MethodId} {below : List Frame} {meth : Method} {c : Code} {G : Ctx} {b L : Nat} {xs : Nat → Int32} (F : Lx p l s m meth c G b L xs) (J23 : Nat → Nat → Nat → Int32 → Nat → Nat → Mem → Prop) (hJ23 : ∀ (v1 : Nat) (v2 : Nat) (v3 : Nat) (v4 : Int32) (mc ms : Nat) (u : Mem) (H : Heap) (locs : List Loc) (cells slots : Nat) (ls : Array Slot), J23 v1 v2 v3 v4 mc ms u → Wd G u s H locs → lv_has ls 7 [(0, .ref b), (1, .ref v1), (2, .ref v2), (3, .ref v3), (4, .int v4)] → cells + mc = 601024 → slots + ms = 7293034 → W p l e room_1 s m #[Value.ref b] below meth c H locs cells slots (lw_Z below #[Value.ref b] s) (F0 m 23 ls [])) : ∀ (v1 : Nat) (v2 : Nat) (v3 : Nat) (v4 : Int32) (mc ms : Nat) (u : Mem) (H : Heap) (locs : List Loc) (cells slots : Nat) (ls : Array Slot), w_L_law_1247 G L xs J23 v1 v2 v3 v4 mc ms u → Wd G u s H locs → lv_has ls 7 [(0, .ref b), (1, .ref v1), (2, .ref v2), (3, .ref v3), (4, .int v4)] → cells + mc = 601024 → slots + ms = 7293034 → W p l e room_1 s m #[Value.ref b] below meth c H locs cells slots (lw_Z below #[Value.ref b] s) (F0 m 1247 ls []) := by
  have hx := F.1.1.1
  have hb := F.1.1.2.1
  intro v1 v2 v3 v4 mc ms u H locs cells slots ls h hW hl hbc hbs
  unfold w_L_law_1247 at h
  refine lv_aload_n hx hb dL_law_1247 rfl (lv_at hl 1 rfl) ?_
  refine lv_aload_n hx hb dL_law_1248 rfl (lv_at hl 0 rfl) ?_
  refine lv_iload hx hb dL_law_1249 (lv_at hl 4 rfl) ?_
  refine lv_iconst (v := (1 : Int32)) hx hb dL_law_1251 (by decide) ?_
  refine lv_iadd hx hb dL_law_1252 ?_
  refine va_sld hx hb F.2.1 F.2.2.1 F.2.2.2.1 hW.2 h.1 dL_law_1253 ?_
  replace h := h.2
  refine lv_aload_n hx hb dL_law_1254 rfl (lv_at hl 0 rfl) ?_
  refine lv_iload hx hb dL_law_1255 (lv_at hl 4 rfl) ?_
  refine lv_iconst (v := (2 : Int32)) hx hb dL_law_1257 (by decide) ?_
  refine lv_iadd hx hb dL_law_1258 ?_
  refine va_sld hx hb F.2.1 F.2.2.1 F.2.2.2.1 hW.2 h.1 dL_law_1259 ?_
  replace h := h.2
  refine lv_aload_n hx hb dL_law_1260 rfl (lv_at hl 0 rfl) ?_
  refine lv_iload hx hb dL_law_1261 (lv_at hl 4 rfl) ?_
  refine lv_iconst (v := (3 : Int32)) hx hb dL_law_1263 (by decide) ?_
  refine lv_iadd hx hb dL_law_1264 ?_
  refine va_sld hx hb F.2.1 F.2.2.1 F.2.2.2.1 hW.2 h.1 dL_law_1265 ?_
  replace h := h.2
  refine lv_aload_n hx hb dL_law_1266 rfl (lv_at hl 3 rfl) ?_
  obtain ⟨c657, b658, h1, h2, h⟩ := h
  have hf1 := bdf hbc h1
  have hf2 := bdf hbs h2
  refine cI (runSW (n := 5) (As := [.ref v1, .int (xs (v4 + (1 : Int32)).toNatClampNeg), .int (xs (v4 + (2 : Int32)).toNatClampNeg), .int (xs (v4 + (3 : Int32)).toNatClampNeg), .ref v3]) (rest := []) F.1 hW (c_L_showsByPapers F.1.2.2.2 G v1 (xs (v4 + (1 : Int32)).toNatClampNeg) (xs (v4 + (2 : Int32)).toNatClampNeg) (xs (v4 + (3 : Int32)).toNatClampNeg) v3 c657 b658 u _ h) q_566 q_567 q_94 q_568 (by decide +kernel) ⟨Nat.le_of_ble_eq_true rfl, Nat.le_of_ble_eq_true rfl⟩ dL_law_1267 rfl hl.1 (Nat.le_of_ble_eq_true rfl) ⟨hf1, hf2⟩) hW (fun r656 u655 h9 H locs hW => ?_)
  replace h := h9
  clear h9
  replace hbc := bdg hbc h1
  replace hbs := bdg hbs h2
  clear h1 h2 hf1 hf2
  refine lv_istore (lv' := [(5, .int r656), (0, .ref b), (1, .ref v1), (2, .ref v2), (3, .ref v3), (4, .int v4)]) hx hb dL_law_1270 hl (by decide) rfl (fun ls hl9 => ?_)
  replace hl := hl9
  clear hl9
  refine lv_aload_n hx hb dL_law_1272 rfl (lv_at hl 3 rfl) ?_
  refine lv_aload_n hx hb dL_law_1273 rfl (lv_at hl 1 rfl) ?_
  refine lv_iload hx hb dL_law_1274 (lv_at hl 5 rfl) ?_
  refine lv_iconst (v := (1 : Int32)) hx hb dL_law_1276 (by decide) ?_
  refine lv_iadd hx hb dL_law_1277 ?_
  refine va_sld hx hb F.2.1 F.2.2.1 F.2.2.2.1 hW.2 h.1 dL_law_1278 ?_
  replace h := h.2
  refine lv_aload_n hx hb dL_law_1279 rfl (lv_at hl 1 rfl) ?_
  refine lv_iload hx hb dL_law_1280 (lv_at hl 5 rfl) ?_
  refine lv_iconst (v := (2 : Int32)) hx hb dL_law_1282 (by decide) ?_
  refine lv_iadd hx hb dL_law_1283 ?_
  refine va_sld hx hb F.2.1 F.2.2.1 F.2.2.2.1 hW.2 h.1 dL_law_1284 ?_
  replace h := h.2
  refine lv_aload_n hx hb dL_law_1285 rfl (lv_at hl 1 rfl) ?_
  refine lv_iload hx hb dL_law_1286 (lv_at hl 5 rfl) ?_
  refine lv_iconst (v := (3 : Int32)) hx hb dL_law_1288 (by decide) ?_
  refine lv_iadd hx hb dL_law_1289 ?_
  refine va_sld hx hb F.2.1 F.2.2.1 F.2.2.2.1 hW.2 h.1 dL_law_1290 ?_
  replace h := h.2
  obtain ⟨hob, h⟩ := h
  refine cI (runV (n := 3) (As := [.int (xs (v4 + (1 : Int32)).toNatClampNeg), .int (xs (v4 + (2 : Int32)).toNatClampNeg), .int (xs (v4 + (3 : Int32)).toNatClampNeg)]) (rest := []) F.1 hW (c_X6_showsByPapers F.1.2.2.2 G v2 (xs (v4 + (1 : Int32)).toNatClampNeg) (xs (v4 + (2 : Int32)).toNatClampNeg) (xs (v4 + (3 : Int32)).toNatClampNeg) u655 _ h) hob (ci := 7) rfl q_577 q_578 q_579 q_5 q_580 rfl (by decide +kernel) ⟨Nat.le_of_ble_eq_true rfl, Nat.le_of_ble_eq_true rfl⟩ dL_law_1291 rfl hl.1 (Nat.le_of_ble_eq_true rfl) ⟨Nat.le.intro hbc, Nat.le.intro hbs⟩) hW (fun r660 u659 h9 H locs hW => ?_)
  replace h := h9
  clear h9
  refine lv_istore (lv' := [(6, .int r660), (5, .int r656), (0, .ref b), (1, .ref v1), (2, .ref v2), (3, .ref v3), (4, .int v4)]) hx hb dL_law_1294 hl (by decide) rfl (fun ls hl9 => ?_)
  replace hl := hl9
  clear hl9
  refine lv_aload_n hx hb dL_law_1296 rfl (lv_at hl 4 rfl) ?_
  obtain ⟨hob, h⟩ := h
  refine cI (runV (n := 0) (As := []) (rest := []) F.1 hW (c_X6_thrown F.1.2.2.2 G v2 u659 _ h) hob (ci := 7) rfl q_130 q_131 q_132 q_5 q_133 rfl (by decide +kernel) ⟨Nat.le_of_ble_eq_true rfl, Nat.le_of_ble_eq_true rfl⟩ dL_law_1297 rfl hl.1 (Nat.le_of_ble_eq_true rfl) ⟨Nat.le.intro hbc, Nat.le.intro hbs⟩) hW (fun r662 u661 h9 H locs hW => ?_)
  replace h := h9
  clear h9
  refine lv_iload hx hb dL_law_1300 (lv_at hl 1 rfl) ?_
  refine lv_icmp_eq (tgt := 1307) hx hb dL_law_1302 (by decide) (fun hc663 => ?_) (fun hc663 => ?_)
  · have h := h.1 hc663
    refine lv_iload hx hb dL_law_1307 (lv_at hl 1 rfl) ?_
    refine lv_if_ne (tgt := 1331) hx hb dL_law_1309 (by decide) (fun hc664 => ?_) (fun hc664 => ?_)
    · have h := h.2 hc664
      exact t_L_law_1331 F J23 hJ23 v1 v2 v3 v4 (mc - c657) (ms - b658) u661 _ _ _ _ _ h hW (lv_sub hl [2, 3, 4, 5, 6] rfl) hbc hbs
    · have h := h.1 hc664
      refine lv_aload_n hx hb dL_law_1312 rfl (lv_at hl 5 rfl) ?_
      refine lv_iconst (v := (0 : Int32)) hx hb dL_law_1313 (by decide) ?_
      refine rJald F.1 hW h.1 h.2.1 dL_law_1314 ?_
      replace h := h.2.2
      refine lv_iload hx hb dL_law_1315 (lv_at hl 0 rfl) ?_
      refine lv_if_eq (tgt := 1324) hx hb dL_law_1317 (by decide) (fun hc665 => ?_) (fun hc665 => ?_)
      · have h := h.1 hc665
        refine lv_lconst (v := (0 : Int64)) hx hb dL_law_1324 (by decide) ?_
        exact t_L_law_1325 F J23 hJ23 v1 v2 v3 v4 (0 : Int64) (mJ u661 v3 (0 : Int32).toNatClampNeg) (mc - c657) (ms - b658) u661 _ _ _ _ _ h hW (lv_sub hl [2, 3, 4, 5, 6] rfl) hbc hbs
      · have h := h.2 hc665
        refine lv_lconst (v := (1 : Int64)) hx hb dL_law_1320 (by decide) ?_
        refine lv_goto (tgt := 1325) hx hb dL_law_1321 (by decide) ?_
        exact t_L_law_1325 F J23 hJ23 v1 v2 v3 v4 (1 : Int64) (mJ u661 v3 (0 : Int32).toNatClampNeg) (mc - c657) (ms - b658) u661 _ _ _ _ _ h hW (lv_sub hl [2, 3, 4, 5, 6] rfl) hbc hbs
  · have h := h.2 hc663
    refine lv_iconst (v := (0 : Int32)) hx hb dL_law_1305 (by decide) ?_
    exact h.elim
set_option maxHeartbeats 4000000 in
set_option maxRecDepth 100000 in
theorem t_L_law_1334 {p : Program} {l : Launch} {e : Env} {s : State} {m : MethodId} {below : List Frame} {meth : Method} {c : Code} {G : Ctx} {b L : Nat} {xs : Nat → Int32} (F : Lx p l s m meth c G b L xs) (J23 : Nat → Nat → Nat → Int32 → Nat → Nat → Mem → Prop) (hJ23 : ∀ (v1 : Nat) (v2 : Nat) (v3 : Nat) (v4 : Int32) (mc ms : Nat) (u : Mem) (H : Heap) (locs : List Loc) (cells slots : Nat) (ls : Array Slot), J23 v1 v2 v3 v4 mc ms u → Wd G u s H locs → lv_has ls 7 [(0, .ref b), (1, .ref v1), (2, .ref v2), (3, .ref v3), (4, .int v4)] → cells + mc = 601024 → slots + ms = 7293034 → W p l e room_1 s m #[Value.ref b] below meth c H locs cells slots (lw_Z below #[Value.ref b] s) (F0 m 23 ls [])) : ∀ (v1 : Nat) (v2 : Nat) (v3 : Nat) (v4 : Int32) (mc ms : Nat) (u : Mem) (H : Heap) (locs : List Loc) (cells slots : Nat) (ls : Array Slot), w_L_law_1334 G L xs J23 v1 v2 v3 v4 mc ms u → Wd G u s H locs → lv_has ls 7 [(0, .ref b), (1, .ref v1), (2, .ref v2), (3, .ref v3), (4, .int v4)] → cells + mc = 601024 → slots + ms = 7293034 → W p l e room_1 s m #[Value.ref b] below meth c H locs cells slots (lw_Z below #[Value.ref b] s) (F0 m 1334 ls []) := by
  have hx := F.1.1.1
  have hb := F.1.1.2.1
  intro v1 v2 v3 v4 mc ms u H locs cells slots ls h hW hl hbc hbs
  unfold w_L_law_1334 at h
  refine lv_aload_n hx hb dL_law_1334 rfl (lv_at hl 1 rfl) ?_
  obtain ⟨hob, h⟩ := h
  refine cI (runV (n := 0) (As := []) (rest := []) F.1 hW (c_X5_taken F.1.2.2.2 G v1 u _ h) hob (ci := 6) rfl q_581 q_582 q_583 q_2 q_584 rfl (by decide +kernel) ⟨Nat.le_of_ble_eq_true rfl, Nat.le_of_ble_eq_true rfl⟩ dL_law_1335 rfl hl.1 (Nat.le_of_ble_eq_true rfl) ⟨Nat.le.intro hbc, Nat.le.intro hbs⟩) hW (fun r667 u666 h9 H locs hW => ?_)
  replace h := h9
  clear h9
  refine lv_aload_n hx hb dL_law_1338 rfl (lv_at hl 2 rfl) ?_
  obtain ⟨hob, h⟩ := h
  refine cI (runV (n := 0) (As := []) (rest := [.int r667]) F.1 hW (c_X6_taken F.1.2.2.2 G v2 u666 _ h) hob (ci := 7) rfl q_589 q_590 q_591 q_5 q_592 rfl (by decide +kernel) ⟨Nat.le_of_ble_eq_true rfl, Nat.le_of_ble_eq_true rfl⟩ dL_law_1339 rfl hl.1 (Nat.le_of_ble_eq_true rfl) ⟨Nat.le.intro hbc, Nat.le.intro hbs⟩) hW (fun r669 u668 h9 H locs hW => ?_)
  replace h := h9
  clear h9
  refine lv_icmp_eq (tgt := 1347) hx hb dL_law_1342 (by decide) (fun hc670 => ?_) (fun hc670 => ?_)
  · have h := h.1 hc670
    exact t_L_law_1347 F J23 hJ23 v1 v2 v3 v4 mc ms u668 _ _ _ _ _ h hW (lv_sub hl [0, 1, 2, 3, 4] rfl) hbc hbs
  · have h := h.2 hc670
    refine lv_iconst (v := (0 : Int32)) hx hb dL_law_1345 (by decide) ?_
    exact h.elim
set_option maxHeartbeats 4000000 in
set_option maxRecDepth 100000 in
theorem t_L_law_23 {p : Program} {l : Launch} {e : Env} {s : State} {m : MethodId} {below : List Frame} {meth : Method} {c : Code} {G : Ctx} {b L : Nat} {xs : Nat → Int32} (F : Lx p l s m meth c G b L xs) : ∀ (n : Nat), ∀ (v1 : Nat) (v2 : Nat) (v3 : Nat) (v4 : Int32) (mc ms : Nat) (u : Mem) (H : Heap) (locs : List Loc) (cells slots : Nat) (ls : Array Slot), w_L_law_23 G L xs n v1 v2 v3 v4 mc ms u → Wd G u s H locs → lv_has ls 7 [(0, .ref b), (1, .ref v1), (2, .ref v2), (3, .ref v3), (4, .int v4)] → cells + mc = 601024 → slots + ms = 7293034 → W p l e room_1 s m #[Value.ref b] below meth c H locs cells slots (lw_Z below #[Value.ref b] s) (F0 m 23 ls []) := by
  have hx := F.1.1.1
  have hb := F.1.1.2.1
  intro n
  induction n with
  | zero =>
    intro v1 v2 v3 v4 mc ms u H locs cells slots ls h hW hl hbc hbs
    exact h.elim
  | succ n hJ23 =>
    intro v1 v2 v3 v4 mc ms u H locs cells slots ls h hW hl hbc hbs
    have h : b_L_law_23 G L xs (w_L_law_23 G L xs n) v1 v2 v3 v4 mc ms u := h
    revert h
    generalize w_L_law_23 G L xs n = J23 at hJ23 ⊢
    intro h
    unfold b_L_law_23 at h
    refine lv_iload hx hb dL_law_23 (lv_at hl 4 rfl) ?_
    refine lv_aload_n hx hb dL_law_25 rfl (lv_at hl 0 rfl) ?_
    refine va_slen hx hb F.2.1 F.2.2.1 F.2.2.2.1 hW.2 dL_law_26 ?_
    refine lv_iconst (v := (4 : Int32)) hx hb dL_law_27 (by decide) ?_
    refine lv_isub hx hb dL_law_28 ?_
    refine lv_icmp_gt (tgt := 1353) hx hb dL_law_29 (by decide) (fun hc671 => ?_) (fun hc671 => ?_)
    · have h := h.1 hc671
      refine lv_iconst (v := (1 : Int32)) hx hb dL_law_1353 (by decide) ?_
      refine va_forget (fun q hq => F.2.2.2.2.1 _ (hW.2.2.2 q hq)) ?_
      refine W.widen (k := 601024) (n := 7293034) (Nat.le.intro hbc) (Nat.le.intro hbs) ?_
      exact lw_ret hx hb F.2.2.2.2.2 F.1.2.2.1 dL_law_1354
    · have h := h.2 hc671
      refine lv_aload_n hx hb dL_law_32 rfl (lv_at hl 0 rfl) ?_
      refine lv_iload hx hb dL_law_33 (lv_at hl 4 rfl) ?_
      refine va_sld hx hb F.2.1 F.2.2.1 F.2.2.2.1 hW.2 h.1 dL_law_35 ?_
      replace h := h.2
      refine lv_bipush (v := (31 : Int32)) hx hb dL_law_36 (by decide) ?_
      refine lv_iand hx hb dL_law_38 ?_
      by_cases hlo : (((xs v4.toNatClampNeg) &&& (31 : Int32))).toInt < 0
      · replace h := h.1 (Or.inl hlo)
        refine lv_tableOut (tgt := 1347) hx hb dL_law_39 (Or.inl hlo) (by decide) ?_
        exact t_L_law_1347 F J23 hJ23 v1 v2 v3 v4 mc ms u _ _ _ _ _ h hW (lv_sub hl [0, 1, 2, 3, 4] rfl) hbc hbs
      by_cases hhi : 21 < (((xs v4.toNatClampNeg) &&& (31 : Int32))).toInt
      · replace h := h.1 (Or.inr hhi)
        refine lv_tableOut (tgt := 1347) hx hb dL_law_39 (Or.inr hhi) (by decide) ?_
        exact t_L_law_1347 F J23 hJ23 v1 v2 v3 v4 mc ms u _ _ _ _ _ h hW (lv_sub hl [0, 1, 2, 3, 4] rfl) hbc hbs
      replace h := h.2
      rcases (show (((xs v4.toNatClampNeg) &&& (31 : Int32))).toInt = 0 ∨ (((xs v4.toNatClampNeg) &&& (31 : Int32))).toInt = 1 ∨ (((xs v4.toNatClampNeg) &&& (31 : Int32))).toInt = 2 ∨ (((xs v4.toNatClampNeg) &&& (31 : Int32))).toInt = 3 ∨ (((xs v4.toNatClampNeg) &&& (31 : Int32))).toInt = 4 ∨ (((xs v4.toNatClampNeg) &&& (31 : Int32))).toInt = 5 ∨ (((xs v4.toNatClampNeg) &&& (31 : Int32))).toInt = 6 ∨ (((xs v4.toNatClampNeg) &&& (31 : Int32))).toInt = 7 ∨ (((xs v4.toNatClampNeg) &&& (31 : Int32))).toInt = 8 ∨ (((xs v4.toNatClampNeg) &&& (31 : Int32))).toInt = 9 ∨ (((xs v4.toNatClampNeg) &&& (31 : Int32))).toInt = 10 ∨ (((xs v4.toNatClampNeg) &&& (31 : Int32))).toInt = 11 ∨ (((xs v4.toNatClampNeg) &&& (31 : Int32))).toInt = 12 ∨ (((xs v4.toNatClampNeg) &&& (31 : Int32))).toInt = 13 ∨ (((xs v4.toNatClampNeg) &&& (31 : Int32))).toInt = 14 ∨ (((xs v4.toNatClampNeg) &&& (31 : Int32))).toInt = 15 ∨ (((xs v4.toNatClampNeg) &&& (31 : Int32))).toInt = 16 ∨ (((xs v4.toNatClampNeg) &&& (31 : Int32))).toInt = 17 ∨ (((xs v4.toNatClampNeg) &&& (31 : Int32))).toInt = 18 ∨ (((xs v4.toNatClampNeg) &&& (31 : Int32))).toInt = 19 ∨ (((xs v4.toNatClampNeg) &&& (31 : Int32))).toInt = 20 ∨ (((xs v4.toNatClampNeg) &&& (31 : Int32))).toInt = 21 by omega) with hk | hk | hk | hk | hk | hk | hk | hk | hk | hk | hk | hk | hk | hk | hk | hk | hk | hk | hk | hk | hk | hk
      · replace h := h.1 (Int32.toInt_inj.mp (hk.trans (by decide)))
        refine lv_tableIn (off := 101) (tgt := 140) hx hb dL_law_39 hlo hhi (by rw [hk]; rfl) (by decide) ?_
        exact t_L_law_140 F J23 hJ23 v1 v2 v3 v4 mc ms u _ _ _ _ _ h hW (lv_sub hl [0, 1, 2, 3, 4] rfl) hbc hbs
      · replace h := h.2.1 (Int32.toInt_inj.mp (hk.trans (by decide)))
        refine lv_tableIn (off := 169) (tgt := 208) hx hb dL_law_39 hlo hhi (by rw [hk]; rfl) (by decide) ?_
        exact t_L_law_208 F J23 hJ23 v1 v2 v3 v4 mc ms u _ _ _ _ _ h hW (lv_sub hl [0, 1, 2, 3, 4] rfl) hbc hbs
      · replace h := h.2.2.1 (Int32.toInt_inj.mp (hk.trans (by decide)))
        refine lv_tableIn (off := 265) (tgt := 304) hx hb dL_law_39 hlo hhi (by rw [hk]; rfl) (by decide) ?_
        exact t_L_law_304 F J23 hJ23 v1 v2 v3 v4 mc ms u _ _ _ _ _ h hW (lv_sub hl [0, 1, 2, 3, 4] rfl) hbc hbs
      · replace h := h.2.2.2.1 (Int32.toInt_inj.mp (hk.trans (by decide)))
        refine lv_tableIn (off := 345) (tgt := 384) hx hb dL_law_39 hlo hhi (by rw [hk]; rfl) (by decide) ?_
        exact t_L_law_384 F J23 hJ23 v1 v2 v3 v4 mc ms u _ _ _ _ _ h hW (lv_sub hl [0, 1, 2, 3, 4] rfl) hbc hbs
      · replace h := h.2.2.2.2.1 (Int32.toInt_inj.mp (hk.trans (by decide)))
        refine lv_tableIn (off := 413) (tgt := 452) hx hb dL_law_39 hlo hhi (by rw [hk]; rfl) (by decide) ?_
        exact t_L_law_452 F J23 hJ23 v1 v2 v3 v4 mc ms u _ _ _ _ _ h hW (lv_sub hl [0, 1, 2, 3, 4] rfl) hbc hbs
      · replace h := h.2.2.2.2.2.1 (Int32.toInt_inj.mp (hk.trans (by decide)))
        refine lv_tableIn (off := 481) (tgt := 520) hx hb dL_law_39 hlo hhi (by rw [hk]; rfl) (by decide) ?_
        exact t_L_law_520 F J23 hJ23 v1 v2 v3 v4 mc ms u _ _ _ _ _ h hW (lv_sub hl [0, 1, 2, 3, 4] rfl) hbc hbs
      · replace h := h.2.2.2.2.2.2.1 (Int32.toInt_inj.mp (hk.trans (by decide)))
        refine lv_tableIn (off := 537) (tgt := 576) hx hb dL_law_39 hlo hhi (by rw [hk]; rfl) (by decide) ?_
        exact t_L_law_576 F J23 hJ23 v1 v2 v3 v4 mc ms u _ _ _ _ _ h hW (lv_sub hl [0, 1, 2, 3, 4] rfl) hbc hbs
      · replace h := h.2.2.2.2.2.2.2.1 (Int32.toInt_inj.mp (hk.trans (by decide)))
        refine lv_tableIn (off := 581) (tgt := 620) hx hb dL_law_39 hlo hhi (by rw [hk]; rfl) (by decide) ?_
        exact t_L_law_620 F J23 hJ23 v1 v2 v3 v4 mc ms u _ _ _ _ _ h hW (lv_sub hl [0, 1, 2, 3, 4] rfl) hbc hbs
      · replace h := h.2.2.2.2.2.2.2.2.1 (Int32.toInt_inj.mp (hk.trans (by decide)))
        refine lv_tableIn (off := 665) (tgt := 704) hx hb dL_law_39 hlo hhi (by rw [hk]; rfl) (by decide) ?_
        exact t_L_law_704 F J23 hJ23 v1 v2 v3 v4 mc ms u _ _ _ _ _ h hW (lv_sub hl [0, 1, 2, 3, 4] rfl) hbc hbs
      · replace h := h.2.2.2.2.2.2.2.2.2.1 (Int32.toInt_inj.mp (hk.trans (by decide)))
        refine lv_tableIn (off := 678) (tgt := 717) hx hb dL_law_39 hlo hhi (by rw [hk]; rfl) (by decide) ?_
        exact t_L_law_717 F J23 hJ23 v1 v2 v3 v4 mc ms u _ _ _ _ _ h hW (lv_sub hl [0, 1, 2, 3, 4] rfl) hbc hbs
      · replace h := h.2.2.2.2.2.2.2.2.2.2.1 (Int32.toInt_inj.mp (hk.trans (by decide)))
        refine lv_tableIn (off := 691) (tgt := 730) hx hb dL_law_39 hlo hhi (by rw [hk]; rfl) (by decide) ?_
        exact t_L_law_730 F J23 hJ23 v1 v2 v3 v4 mc ms u _ _ _ _ _ h hW (lv_sub hl [0, 1, 2, 3, 4] rfl) hbc hbs
      · replace h := h.2.2.2.2.2.2.2.2.2.2.2.1 (Int32.toInt_inj.mp (hk.trans (by decide)))
        refine lv_tableIn (off := 747) (tgt := 786) hx hb dL_law_39 hlo hhi (by rw [hk]; rfl) (by decide) ?_
        exact t_L_law_786 F J23 hJ23 v1 v2 v3 v4 mc ms u _ _ _ _ _ h hW (lv_sub hl [0, 1, 2, 3, 4] rfl) hbc hbs
      · replace h := h.2.2.2.2.2.2.2.2.2.2.2.2.1 (Int32.toInt_inj.mp (hk.trans (by decide)))
        refine lv_tableIn (off := 760) (tgt := 799) hx hb dL_law_39 hlo hhi (by rw [hk]; rfl) (by decide) ?_
        exact t_L_law_799 F J23 hJ23 v1 v2 v3 v4 mc ms u _ _ _ _ _ h hW (lv_sub hl [0, 1, 2, 3, 4] rfl) hbc hbs
      · replace h := h.2.2.2.2.2.2.2.2.2.2.2.2.2.1 (Int32.toInt_inj.mp (hk.trans (by decide)))
        refine lv_tableIn (off := 816) (tgt := 855) hx hb dL_law_39 hlo hhi (by rw [hk]; rfl) (by decide) ?_
        exact t_L_law_855 F J23 hJ23 v1 v2 v3 v4 mc ms u _ _ _ _ _ h hW (lv_sub hl [0, 1, 2, 3, 4] rfl) hbc hbs
      · replace h := h.2.2.2.2.2.2.2.2.2.2.2.2.2.2.1 (Int32.toInt_inj.mp (hk.trans (by decide)))
        refine lv_tableIn (off := 872) (tgt := 911) hx hb dL_law_39 hlo hhi (by rw [hk]; rfl) (by decide) ?_
        exact t_L_law_911 F J23 hJ23 v1 v2 v3 v4 mc ms u _ _ _ _ _ h hW (lv_sub hl [0, 1, 2, 3, 4] rfl) hbc hbs
      · replace h := h.2.2.2.2.2.2.2.2.2.2.2.2.2.2.2.1 (Int32.toInt_inj.mp (hk.trans (by decide)))
        refine lv_tableIn (off := 928) (tgt := 967) hx hb dL_law_39 hlo hhi (by rw [hk]; rfl) (by decide) ?_
        exact t_L_law_967 F J23 hJ23 v1 v2 v3 v4 mc ms u _ _ _ _ _ h hW (lv_sub hl [0, 1, 2, 3, 4] rfl) hbc hbs
      · replace h := h.2.2.2.2.2.2.2.2.2.2.2.2.2.2.2.2.1 (Int32.toInt_inj.mp (hk.trans (by decide)))
        refine lv_tableIn (off := 984) (tgt := 1023) hx hb dL_law_39 hlo hhi (by rw [hk]; rfl) (by decide) ?_
        exact t_L_law_1023 F J23 hJ23 v1 v2 v3 v4 mc ms u _ _ _ _ _ h hW (lv_sub hl [0, 1, 2, 3, 4] rfl) hbc hbs
      · replace h := h.2.2.2.2.2.2.2.2.2.2.2.2.2.2.2.2.2.1 (Int32.toInt_inj.mp (hk.trans (by decide)))
        refine lv_tableIn (off := 1040) (tgt := 1079) hx hb dL_law_39 hlo hhi (by rw [hk]; rfl) (by decide) ?_
        exact t_L_law_1079 F J23 hJ23 v1 v2 v3 v4 mc ms u _ _ _ _ _ h hW (lv_sub hl [0, 1, 2, 3, 4] rfl) hbc hbs
      · replace h := h.2.2.2.2.2.2.2.2.2.2.2.2.2.2.2.2.2.2.1 (Int32.toInt_inj.mp (hk.trans (by decide)))
        refine lv_tableIn (off := 1108) (tgt := 1147) hx hb dL_law_39 hlo hhi (by rw [hk]; rfl) (by decide) ?_
        exact t_L_law_1147 F J23 hJ23 v1 v2 v3 v4 mc ms u _ _ _ _ _ h hW (lv_sub hl [0, 1, 2, 3, 4] rfl) hbc hbs
      · replace h := h.2.2.2.2.2.2.2.2.2.2.2.2.2.2.2.2.2.2.2.1 (Int32.toInt_inj.mp (hk.trans (by decide)))
        refine lv_tableIn (off := 1121) (tgt := 1160) hx hb dL_law_39 hlo hhi (by rw [hk]; rfl) (by decide) ?_
        exact t_L_law_1160 F J23 hJ23 v1 v2 v3 v4 mc ms u _ _ _ _ _ h hW (lv_sub hl [0, 1, 2, 3, 4] rfl) hbc hbs
      · replace h := h.2.2.2.2.2.2.2.2.2.2.2.2.2.2.2.2.2.2.2.2.1 (Int32.toInt_inj.mp (hk.trans (by decide)))
        refine lv_tableIn (off := 1208) (tgt := 1247) hx hb dL_law_39 hlo hhi (by rw [hk]; rfl) (by decide) ?_
        exact t_L_law_1247 F J23 hJ23 v1 v2 v3 v4 mc ms u _ _ _ _ _ h hW (lv_sub hl [0, 1, 2, 3, 4] rfl) hbc hbs
      · replace h := h.2.2.2.2.2.2.2.2.2.2.2.2.2.2.2.2.2.2.2.2.2 (Int32.toInt_inj.mp (hk.trans (by decide)))
        refine lv_tableIn (off := 1295) (tgt := 1334) hx hb dL_law_39 hlo hhi (by rw [hk]; rfl) (by decide) ?_
        exact t_L_law_1334 F J23 hJ23 v1 v2 v3 v4 mc ms u _ _ _ _ _ h hW (lv_sub hl [0, 1, 2, 3, 4] rfl) hbc hbs
set_option maxHeartbeats 4000000 in
set_option maxRecDepth 100000 in
theorem t_L_law {p : Program} {l : Launch} {e : Env} {s : State} {m : MethodId} {below : List Frame} {meth : Method} {c : Code} {G : Ctx} {b L : Nat} {xs : Nat → Int32} (F : Lx p l s m meth c G b L xs) : ∀ (u : Mem) (ls : Array Slot), w_L_law G L xs u → Wd G u s s.heap [] → lv_has ls 7 [(0, .ref b)] → W p l e room_1 s m #[Value.ref b] below meth c s.heap [] 0 0 (lw_Z below #[Value.ref b] s) (F0 m 0 ls []) := by
  have hx := F.1.1.1
  have hb := F.1.1.2.1
  intro u ls h hW hl
  have hbc : 0 + 601024 = 601024 := rfl
  have hbs : 0 + 7293034 = 7293034 := rfl
  unfold w_L_law at h
  obtain ⟨h1, h2, h⟩ := h
  refine nw_6 (R := room_1) F.1 hW q_0 q_1 q_2 hbc hbs h1 h2 dL_law_0 (fun q1 H hq hW => ?_)
  replace h := h q1 hq
  replace hbc := bdg hbc h1
  replace hbs := bdg hbs h2
  clear h1 h2
  obtain ⟨u2, eu⟩ : ∃ z, z = mNew u q1 6 0 := ⟨_, rfl⟩
  rw [← eu] at hW
  replace h := h u2 eu
  clear eu
  refine lv_dup hx hb dL_law_3 rfl ?_
  obtain ⟨c5, b6, h1, h2, h⟩ := h
  have hf1 := bdf hbc h1
  have hf2 := bdf hbs h2
  refine cV (runI (n := 0) (As := []) (rest := [.ref q1]) F.1 hW (c_X5_init F.1.2.2.2 G q1 c5 b6 u2 _ h) q_7 q_8 q_2 q_9 rfl (by decide +kernel) ⟨Nat.le_of_ble_eq_true rfl, Nat.le_of_ble_eq_true rfl⟩ dL_law_4 rfl hl.1 (Nat.le_of_ble_eq_true rfl) ⟨hf1, hf2⟩) hW (fun u3 h9 H locs hW => ?_)
  replace h := h9
  clear h9
  replace hbc := bdg hbc h1
  replace hbs := bdg hbs h2
  clear h1 h2 hf1 hf2
  refine lv_astore_n (lv' := [(1, .ref q1), (0, .ref b)]) hx hb dL_law_7 rfl hl (by decide) rfl (fun ls hl9 => ?_)
  replace hl := hl9
  clear hl9
  obtain ⟨h1, h2, h⟩ := h
  refine nw_7 (R := room_1) F.1 hW q_3 q_4 q_5 hbc hbs h1 h2 dL_law_8 (fun q7 H hq hW => ?_)
  replace h := h q7 hq
  replace hbc := bdg hbc h1
  replace hbs := bdg hbs h2
  clear h1 h2
  obtain ⟨u8, eu⟩ : ∃ z, z = mNew u3 q7 7 0 := ⟨_, rfl⟩
  rw [← eu] at hW
  replace h := h u8 eu
  clear eu
  refine lv_dup hx hb dL_law_11 rfl ?_
  obtain ⟨c11, b12, h1, h2, h⟩ := h
  have hf1 := bdf hbc h1
  have hf2 := bdf hbs h2
  refine cV (runI (n := 0) (As := []) (rest := [.ref q7]) F.1 hW (c_X6_init F.1.2.2.2 G q7 c11 b12 u8 _ h) q_70 q_71 q_5 q_72 rfl (by decide +kernel) ⟨Nat.le_of_ble_eq_true rfl, Nat.le_of_ble_eq_true rfl⟩ dL_law_12 rfl hl.1 (Nat.le_of_ble_eq_true rfl) ⟨hf1, hf2⟩) hW (fun u9 h9 H locs hW => ?_)
  replace h := h9
  clear h9
  replace hbc := bdg hbc h1
  replace hbs := bdg hbs h2
  clear h1 h2 hf1 hf2
  refine lv_astore_n (lv' := [(2, .ref q7), (1, .ref q1), (0, .ref b)]) hx hb dL_law_15 rfl hl (by decide) rfl (fun ls hl9 => ?_)
  replace hl := hl9
  clear hl9
  refine lv_iconst (v := (1 : Int32)) hx hb dL_law_16 (by decide) ?_
  obtain ⟨h1, h2, h⟩ := h
  refine rNewJ (N := 1) (R := room_1) F.1 hW hbc hbs h1 h2 (by decide) dL_law_17 (fun q13 H hq hW => ?_)
  replace h := h q13 hq
  replace hbc := bdg hbc h1
  replace hbs := bdg hbs h2
  clear h1 h2
  obtain ⟨u14, eu⟩ : ∃ z, z = mNew u9 q13 10 1 := ⟨_, rfl⟩
  rw [← eu] at hW
  replace h := h u14 eu
  clear eu
  refine lv_astore_n (lv' := [(3, .ref q13), (2, .ref q7), (1, .ref q1), (0, .ref b)]) hx hb dL_law_19 rfl hl (by decide) rfl (fun ls hl9 => ?_)
  replace hl := hl9
  clear hl9
  refine lv_iconst (v := (0 : Int32)) hx hb dL_law_20 (by decide) ?_
  refine lv_istore (lv' := [(4, .int (0 : Int32)), (3, .ref q13), (2, .ref q7), (1, .ref q1), (0, .ref b)]) hx hb dL_law_21 hl (by decide) rfl (fun ls hl9 => ?_)
  replace hl := hl9
  clear hl9
  obtain ⟨n, h⟩ := h
  exact t_L_law_23 F n q1 q7 q13 (0 : Int32) (((((601024 - 1) - c5) - 1) - c11) - 1) (((((7293034 - 6) - b6) - 22) - b12) - 1) u14 _ _ _ _ _ h hW (lv_sub hl [4, 3, 2, 1, 0] rfl) hbc hbs
end WKL
