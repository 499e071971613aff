section WK0
set_option maxHeartbeats 4000000 in
set_option maxRecDepth 100000 in
theorem t_J3_checkIndex_8e157_9 {p : Program} {l : Launch} {e : Env} {s : State} {m : MethodId} {below : List Frame} {meth : Method} {c : Code} {G : Ctx} (v0 : Int32) (v1 : Int32) (F : Fx p l s m ([.int v0, .int v1, .null]).toArray meth c cJ3_checkIndex_8e157 3 RJ3 G) (hr : meth.sig.returnType = (some .int)) (K : Int32 → Mem → Prop) : ∀ (u : Mem) (H : Heap) (locs : List Loc) (ls : Array Slot), w_J3_checkIndex_8e157_9 G v0 v1 K u → Wd G u s H locs → lv_has ls 3 [(0, .int v0), (1, .int v1), (2, .null)] → W p l e { frames := 0, cells := 0, slots := 0, locals := 0 } s m ([.int v0, .int v1, .null]).toArray below meth c H locs 0 0 (MQ below (va_Qi K (fun u' t => Wp G u' t.heap) (Ab G)) ([.int v0, .int v1, .null]).toArray s 0 0 (Ab G)) (F0 m 9 ls []) := by
  have hx := F.1.1
  have hb := F.1.2.1
  intro u H locs ls h hW hl
  unfold w_J3_checkIndex_8e157_9 at h
  refine lv_aload_nN hx hb dJ3_checkIndex_8e157_9 rfl (lv_at hl 2 rfl) ?_
  refine lv_iload_n hx hb dJ3_checkIndex_8e157_10 rfl (lv_at hl 0 rfl) ?_
  refine lv_iload_n hx hb dJ3_checkIndex_8e157_11 rfl (lv_at hl 1 rfl) ?_
  exact h.elim
set_option maxHeartbeats 4000000 in
set_option maxRecDepth 100000 in
theorem c_J3_checkIndex_8e157 {l : Launch} (hst : l.stackTraces = false) (G : Ctx) (v0 : Int32) (v1 : Int32) (u : Mem) (K : Int32 → Mem → Prop) (h : w_J3_checkIndex_8e157 G v0 v1 u K) : CtI l yJ3_checkIndex_8e157 (.code yJ3_checkIndex_8e157 cJ3_checkIndex_8e157 3 (some .int)) 0 0 0 0 G [.int v0, .int v1, .null] u K := by
  refine entM (by first | decide | decide +kernel) hst (by first | decide | exact Nat.le_of_ble_eq_true rfl) (fun p e s m below meth c ls F hr hnm hW hl => ?_)
  have F : Fx p l s m ([.int v0, .int v1, .null]).toArray meth c cJ3_checkIndex_8e157 3 RJ3 G := F
  have hnm : meth.name = "checkIndex" := hnm
  have hl : lv_has ls 3 [(0, .int v0), (1, .int v1), (2, .null)] := hl
  have hx := F.1.1
  have hb := F.1.2.1
  unfold w_J3_checkIndex_8e157 at h
  refine lv_iload_n hx hb dJ3_checkIndex_8e157_0 rfl (lv_at hl 0 rfl) ?_
  refine lv_if_lt (tgt := 9) hx hb dJ3_checkIndex_8e157_1 (by decide) (fun hc1 => ?_) (fun hc1 => ?_)
  · have h := h.1 hc1
    exact t_J3_checkIndex_8e157_9 v0 v1 F hr K u _ _ _ h hW (lv_sub hl [0, 1, 2] rfl)
  · have h := h.2 hc1
    refine lv_iload_n hx hb dJ3_checkIndex_8e157_4 rfl (lv_at hl 0 rfl) ?_
    refine lv_iload_n hx hb dJ3_checkIndex_8e157_5 rfl (lv_at hl 1 rfl) ?_
    refine lv_icmp_lt (tgt := 16) hx hb dJ3_checkIndex_8e157_6 (by decide) (fun hc2 => ?_) (fun hc2 => ?_)
    · have h := h.1 hc2
      refine lv_iload_n hx hb dJ3_checkIndex_8e157_16 rfl (lv_at hl 0 rfl) ?_
      exact retI F hr hW h dJ3_checkIndex_8e157_17
    · have h := h.2 hc2
      exact t_J3_checkIndex_8e157_9 v0 v1 F hr K u _ _ _ h hW (lv_sub hl [0, 1, 2] rfl)
set_option maxHeartbeats 4000000 in
set_option maxRecDepth 100000 in
theorem c_J15_checkIndex_7cf53 {l : Launch} (hst : l.stackTraces = false) (G : Ctx) (v0 : Int32) (v1 : Int32) (u : Mem) (K : Int32 → Mem → Prop) (h : w_J15_checkIndex_7cf53 G v0 v1 u K) : CtI l yJ15_checkIndex_7cf53 (.code yJ15_checkIndex_7cf53 cJ15_checkIndex_7cf53 2 (some .int)) 1 22 0 0 G [.int v0, .int v1] u K := by
  refine entM (by first | decide | decide +kernel) hst (by first | decide | exact Nat.le_of_ble_eq_true rfl) (fun p e s m below meth c ls F hr hnm hW hl => ?_)
  have F : Fx p l s m ([.int v0, .int v1]).toArray meth c cJ15_checkIndex_7cf53 2 RJ15 G := F
  have hnm : meth.name = "checkIndex" := hnm
  have hl : lv_has ls 2 [(0, .int v0), (1, .int v1)] := hl
  have hx := F.1.1
  have hb := F.1.2.1
  unfold w_J15_checkIndex_7cf53 at h
  refine lv_iload_n hx hb dJ15_checkIndex_7cf53_0 rfl (lv_at hl 0 rfl) ?_
  refine lv_iload_n hx hb dJ15_checkIndex_7cf53_1 rfl (lv_at hl 1 rfl) ?_
  refine lv_null hx hb dJ15_checkIndex_7cf53_2 ?_
  refine cI (runS (n := 3) (As := [.int v0, .int v1, .null]) (rest := []) F hW (c_J3_checkIndex_8e157 F.2.2.2 G v0 v1 u _ h) q_223 q_224 q_225 q_226 (by decide +kernel) ⟨Nat.le_of_ble_eq_true rfl, Nat.le_of_ble_eq_true rfl⟩ dJ15_checkIndex_7cf53_3 rfl hl.1 (Nat.le_of_ble_eq_true rfl) ⟨Nat.zero_le _, Nat.zero_le _⟩) hW (fun r2 u1 h9 H locs hW => ?_)
  replace h := h9
  clear h9
  exact retI F hr hW h dJ15_checkIndex_7cf53_6
set_option maxHeartbeats 4000000 in
set_option maxRecDepth 100000 in
theorem t_J7_copyOf_6403c_24 {p : Program} {l : Launch} {e : Env} {s : State} {m : MethodId} {below : List Frame} {meth : Method} {c : Code} {G : Ctx} (v0 : Nat) (v1 : Int32) (v2 : Nat) (MC MS : Nat) (F : Fx p l s m ([.ref v0, .int v1, .ref v2]).toArray meth c cJ7_copyOf_6403c 4 RJ7 G) (hr : meth.sig.returnType = (some (.array (.object "java/lang/Object")))) (K : Option Nat → Mem → Prop) : ∀ (s0 : Nat) (mc ms : Nat) (u : Mem) (H : Heap) (locs : List Loc) (cells slots : Nat) (ls : Array Slot), w_J7_copyOf_6403c_24 G v0 v1 v2 K s0 mc ms u → Wd G u s H locs → lv_has ls 4 [(0, .ref v0), (1, .int v1), (2, .ref v2)] → cells + mc = MC → slots + ms = MS → W p l e { frames := 1, cells := MC, slots := MS, locals := 60 } s m ([.ref v0, .int v1, .ref v2]).toArray below meth c H locs cells slots (MQ below (va_Qq K (fun u' t => Wp G u' t.heap) (Ab G)) ([.ref v0, .int v1, .ref v2]).toArray s MC MS (Ab G)) (F0 m 24 ls [.ref s0]) := by
  have hx := F.1.1
  have hb := F.1.2.1
  intro s0 mc ms u H locs cells slots ls h hW hl hbc hbs
  unfold w_J7_copyOf_6403c_24 at h
  refine lv_astore_n (lv' := [(3, .ref s0), (0, .ref v0), (1, .int v1), (2, .ref v2)]) hx hb dJ7_copyOf_6403c_24 rfl hl (by decide) rfl (fun ls hl9 => ?_)
  replace hl := hl9
  clear hl9
  refine lv_aload_n hx hb dJ7_copyOf_6403c_25 rfl (lv_at hl 1 rfl) ?_
  refine lv_iconst (v := (0 : Int32)) hx hb dJ7_copyOf_6403c_26 (by decide) ?_
  refine lv_aload_n hx hb dJ7_copyOf_6403c_27 rfl (lv_at hl 0 rfl) ?_
  refine lv_iconst (v := (0 : Int32)) hx hb dJ7_copyOf_6403c_28 (by decide) ?_
  refine lv_aload_n hx hb dJ7_copyOf_6403c_29 rfl (lv_at hl 1 rfl) ?_
  obtain ⟨n9, hal, h⟩ := h
  refine rLenE F hW hal dJ7_copyOf_6403c_30 ?_
  clear hal
  refine lv_iload_n hx hb dJ7_copyOf_6403c_31 rfl (lv_at hl 2 rfl) ?_
  refine rMin F hl.1 q_153 (Nat.le_of_ble_eq_true rfl) (Nat.le_of_ble_eq_true rfl) (Nat.le.intro hbc) (Nat.le.intro hbs) dJ7_copyOf_6403c_32 ?_
  obtain ⟨h1, h2, h3, h4, h5, h6, h7, ⟨ci, hci, hel⟩, h⟩ := h
  refine rCopy F hW hl.1 q_156 h1 h2 h3 h4 h5 h6 h7 hci hel (Nat.le_of_ble_eq_true rfl) (Nat.le_of_ble_eq_true rfl) dJ7_copyOf_6403c_35 (fun H locs hW => ?_)
  clear h1 h2 h3 h4 h5 h6 h7 hci hel
  obtain ⟨u10, eu⟩ : ∃ z, z = setC u s0 (va_cpy (mB u v0) (mB u s0) (0 : Int32).toNatClampNeg (0 : Int32).toNatClampNeg (if v1 < (nI n9) then v1 else (nI n9)).toNatClampNeg) := ⟨_, rfl⟩
  rw [← eu] at hW
  replace h := h u10 eu
  clear eu
  refine lv_aload_n hx hb dJ7_copyOf_6403c_38 rfl (lv_at hl 0 rfl) ?_
  refine W.widen (k := MC) (n := MS) (Nat.le.intro hbc) (Nat.le.intro hbs) ?_
  exact retQ (v := (some s0)) F hr (Or.inr ⟨_, rfl⟩) hW h dJ7_copyOf_6403c_39
set_option maxHeartbeats 4000000 in
set_option maxRecDepth 100000 in
theorem c_J7_copyOf_6403c {l : Launch} (hst : l.stackTraces = false) (G : Ctx) (v0 : Nat) (v1 : Int32) (v2 : Nat) (MC MS : Nat) (u : Mem) (K : Option Nat → Mem → Prop) (h : w_J7_copyOf_6403c G v0 v1 v2 MC MS u K) : CtQ l yJ7_copyOf_6403c (.code yJ7_copyOf_6403c cJ7_copyOf_6403c 4 (some (.array (.object "java/lang/Object")))) 1 60 MC MS G [.ref v0, .int v1, .ref v2] u K := by
  refine entM (by first | decide | decide +kernel) hst (by first | decide | exact Nat.le_of_ble_eq_true rfl) (fun p e s m below meth c ls F hr hnm hW hl => ?_)
  have F : Fx p l s m ([.ref v0, .int v1, .ref v2]).toArray meth c cJ7_copyOf_6403c 4 RJ7 G := F
  have hnm : meth.name = "copyOf" := hnm
  have hl : lv_has ls 4 [(0, .ref v0), (1, .int v1), (2, .ref v2)] := hl
  have hx := F.1.1
  have hb := F.1.2.1
  have hbc : 0 + MC = MC := Nat.zero_add _
  have hbs : 0 + MS = MS := Nat.zero_add _
  unfold w_J7_copyOf_6403c at h
  refine lv_aload_n hx hb dJ7_copyOf_6403c_0 rfl (lv_at hl 2 rfl) ?_
  refine rLdcM F q_151 dJ7_copyOf_6403c_1 ?_
  refine lv_acmp_ne (rx := (some v2)) (ry := (some (G.2.2 2))) (tgt := 13) hx hb dJ7_copyOf_6403c_3 (by decide) (fun hc1 => ?_) (fun hc1 => ?_)
  · have h := h.2 hc1
    refine lv_aload_n hx hb dJ7_copyOf_6403c_13 rfl (lv_at hl 2 rfl) ?_
    exact h.elim
  · have h := h.1 hc1
    refine lv_iload_n hx hb dJ7_copyOf_6403c_6 rfl (lv_at hl 1 rfl) ?_
    obtain ⟨n3, eN, hN, h⟩ := h
    refine W.eq (congrArg (fun z => F0 m 7 ls (.int z :: [])) eN) ?_
    obtain ⟨h1, h2, h⟩ := h
    refine rNewQ_13 (N := n3) (R := ⟨1, MC, MS, 60⟩) F hW q_152 hbc hbs h1 h2 hN dJ7_copyOf_6403c_7 (fun q2 H hq hW => ?_)
    replace h := h q2 hq
    replace hbc := bdg hbc h1
    replace hbs := bdg hbs h2
    clear h1 h2
    obtain ⟨u4, eu⟩ : ∃ z, z = mNew u q2 13 n3 := ⟨_, rfl⟩
    rw [← eu] at hW
    replace h := h u4 eu
    clear eu
    refine lv_goto (tgt := 24) hx hb dJ7_copyOf_6403c_10 (by decide) ?_
    exact t_J7_copyOf_6403c_24 v0 v1 v2 MC MS F hr K q2 (MC - 1) (MS - n3) u4 _ _ _ _ _ h hW (lv_sub hl [0, 1, 2] rfl) hbc hbs
set_option maxHeartbeats 4000000 in
set_option maxRecDepth 100000 in
theorem c_J7_copyOf_1904c {l : Launch} (hst : l.stackTraces = false) (G : Ctx) (v0 : Nat) (v1 : Int32) (MC MS : Nat) (u : Mem) (K : Option Nat → Mem → Prop) (h : w_J7_copyOf_1904c G v0 v1 MC MS u K) : CtQ l yJ7_copyOf_1904c (.code yJ7_copyOf_1904c cJ7_copyOf_1904c 2 (some (.array (.object "java/lang/Object")))) 2 83 MC MS G [.ref v0, .int v1] u K := by
  refine entM (by first | decide | decide +kernel) hst (by first | decide | exact Nat.le_of_ble_eq_true rfl) (fun p e s m below meth c ls F hr hnm hW hl => ?_)
  have F : Fx p l s m ([.ref v0, .int v1]).toArray meth c cJ7_copyOf_1904c 2 RJ7 G := F
  have hnm : meth.name = "copyOf" := hnm
  have hl : lv_has ls 2 [(0, .ref v0), (1, .int v1)] := hl
  have hx := F.1.1
  have hb := F.1.2.1
  have hbc : 0 + MC = MC := Nat.zero_add _
  have hbs : 0 + MS = MS := Nat.zero_add _
  unfold w_J7_copyOf_1904c at h
  refine lv_aload_n hx hb dJ7_copyOf_1904c_0 rfl (lv_at hl 0 rfl) ?_
  refine lv_iload_n hx hb dJ7_copyOf_1904c_1 rfl (lv_at hl 1 rfl) ?_
  refine lv_aload_n hx hb dJ7_copyOf_1904c_2 rfl (lv_at hl 0 rfl) ?_
  refine rGetC F hW hl.1 h.1 q_144 (Nat.le_of_ble_eq_true rfl) (Nat.le_of_ble_eq_true rfl) dJ7_copyOf_1904c_3 ?_
  replace h := h.2
  obtain ⟨c3, b4, h1, h2, h⟩ := h
  have hf1 := bdf hbc h1
  have hf2 := bdf hbs h2
  refine cQ (runS (n := 3) (As := [.ref v0, .int v1, .ref (G.2.2 2)]) (rest := []) F hW (c_J7_copyOf_6403c F.2.2.2 G v0 v1 (G.2.2 2) c3 b4 u _ h) q_148 q_149 q_142 q_150 (by decide +kernel) ⟨Nat.le_of_ble_eq_true rfl, Nat.le_of_ble_eq_true rfl⟩ dJ7_copyOf_1904c_6 rfl hl.1 (Nat.le_of_ble_eq_true rfl) ⟨hf1, hf2⟩) hW (fun r2 u1 h9 H locs hW => ?_)
  replace h := h9
  clear h9
  replace hbc := bdg hbc h1
  replace hbs := bdg hbs h2
  clear h1 h2 hf1 hf2
  refine W.widen (k := MC) (n := MS) (Nat.le.intro hbc) (Nat.le.intro hbs) ?_
  exact retQ (v := r2) F hr (Or.inr ⟨_, rfl⟩) hW h dJ7_copyOf_1904c_9
set_option maxHeartbeats 4000000 in
set_option maxRecDepth 100000 in
theorem t_J8_newLength_cabcc_21 {p : Program} {l : Launch} {e : Env} {s : State} {m : MethodId} {below : List Frame} {meth : Method} {c : Code} {G : Ctx} (v0 : Int32) (v1 : Int32) (v2 : Int32) (F : Fx p l s m ([.int v0, .int v1, .int v2]).toArray meth c cJ8_newLength_cabcc 4 RJ8 G) (hr : meth.sig.returnType = (some .int)) (K : Int32 → Mem → Prop) : ∀ (u : Mem) (H : Heap) (locs : List Loc) (ls : Array Slot), w_J8_newLength_cabcc_21 G v0 v1 v2 K u → Wd G u s H locs → lv_has ls 4 [(0, .int v0), (1, .int v1), (2, .int v2)] → W p l e { frames := 1, cells := 0, slots := 0, locals := 30 } s m ([.int v0, .int v1, .int v2]).toArray below meth c H locs 0 0 (MQ below (va_Qi K (fun u' t => Wp G u' t.heap) (Ab G)) ([.int v0, .int v1, .int v2]).toArray s 0 0 (Ab G)) (F0 m 21 ls []) := by
  have hx := F.1.1
  have hb := F.1.2.1
  intro u H locs ls h hW hl
  unfold w_J8_newLength_cabcc_21 at h
  refine lv_iload_n hx hb dJ8_newLength_cabcc_21 rfl (lv_at hl 0 rfl) ?_
  refine lv_iload_n hx hb dJ8_newLength_cabcc_22 rfl (lv_at hl 1 rfl) ?_
  exact h.elim
set_option maxHeartbeats 4000000 in
set_option maxRecDepth 100000 in
theorem c_J8_newLength_cabcc {l : Launch} (hst : l.stackTraces = false) (G : Ctx) (v0 : Int32) (v1 : Int32) (v2 : Int32) (u : Mem) (K : Int32 → Mem → Prop) (h : w_J8_newLength_cabcc G v0 v1 v2 u K) : CtI l yJ8_newLength_cabcc (.code yJ8_newLength_cabcc cJ8_newLength_cabcc 4 (some .int)) 1 30 0 0 G [.int v0, .int v1, .int v2] u K := by
  refine entM (by first | decide | decide +kernel) hst (by first | decide | exact Nat.le_of_ble_eq_true rfl) (fun p e s m below meth c ls F hr hnm hW hl => ?_)
  have F : Fx p l s m ([.int v0, .int v1, .int v2]).toArray meth c cJ8_newLength_cabcc 4 RJ8 G := F
  have hnm : meth.name = "newLength" := hnm
  have hl : lv_has ls 4 [(0, .int v0), (1, .int v1), (2, .int v2)] := hl
  have hx := F.1.1
  have hb := F.1.2.1
  unfold w_J8_newLength_cabcc at h
  refine lv_iload_n hx hb dJ8_newLength_cabcc_0 rfl (lv_at hl 0 rfl) ?_
  refine lv_iload_n hx hb dJ8_newLength_cabcc_1 rfl (lv_at hl 1 rfl) ?_
  refine lv_iload_n hx hb dJ8_newLength_cabcc_2 rfl (lv_at hl 2 rfl) ?_
  refine rMax F hl.1 q_135 (Nat.le_of_ble_eq_true rfl) (Nat.le_of_ble_eq_true rfl) (Nat.zero_le _) (Nat.zero_le _) dJ8_newLength_cabcc_3 ?_
  refine lv_iadd hx hb dJ8_newLength_cabcc_6 ?_
  refine lv_istore_n (lv' := [(3, .int (v0 + (if v1 < v2 then v2 else v1))), (0, .int v0), (1, .int v1), (2, .int v2)]) hx hb dJ8_newLength_cabcc_7 rfl hl (by decide) rfl (fun ls hl9 => ?_)
  replace hl := hl9
  clear hl9
  refine lv_iconst (v := (0 : Int32)) hx hb dJ8_newLength_cabcc_8 (by decide) ?_
  refine lv_iload_n hx hb dJ8_newLength_cabcc_9 rfl (lv_at hl 0 rfl) ?_
  refine lv_icmp_ge (tgt := 21) hx hb dJ8_newLength_cabcc_10 (by decide) (fun hc1 => ?_) (fun hc1 => ?_)
  · have h := h.1 hc1
    exact t_J8_newLength_cabcc_21 v0 v1 v2 F hr K u _ _ _ h hW (lv_sub hl [1, 2, 3] rfl)
  · have h := h.2 hc1
    refine lv_iload_n hx hb dJ8_newLength_cabcc_13 rfl (lv_at hl 0 rfl) ?_
    refine lv_ldc hx hb F.1.2.2.2.1 (F.1.2.2.2.2 _ q_136) dJ8_newLength_cabcc_14 ?_
    refine lv_icmp_gt (tgt := 21) hx hb dJ8_newLength_cabcc_16 (by decide) (fun hc2 => ?_) (fun hc2 => ?_)
    · have h := h.1 hc2
      exact t_J8_newLength_cabcc_21 v0 v1 v2 F hr K u _ _ _ h hW (lv_sub hl [1, 2, 3] rfl)
    · have h := h.2 hc2
      refine lv_iload_n hx hb dJ8_newLength_cabcc_19 rfl (lv_at hl 0 rfl) ?_
      exact retI F hr hW h dJ8_newLength_cabcc_20
set_option maxHeartbeats 4000000 in
set_option maxRecDepth 100000 in
theorem c_J9_floorMod_7cf53 {l : Launch} (hst : l.stackTraces = false) (G : Ctx) (v0 : Int32) (v1 : Int32) (u : Mem) (K : Int32 → Mem → Prop) (h : w_J9_floorMod_7cf53 G v0 v1 u K) : CtI l yJ9_floorMod_7cf53 (.code yJ9_floorMod_7cf53 cJ9_floorMod_7cf53 3 (some .int)) 0 0 0 0 G [.int v0, .int v1] u K := by
  refine entF (by first | decide | decide +kernel) hst (by first | decide | exact Nat.le_of_ble_eq_true rfl) (fun p e s m below meth c ls F hr hnm hW hl => ?_)
  have F : Fx p l s m ([.int v0, .int v1]).toArray meth c cJ9_floorMod_7cf53 3 RJ9 G := F
  have hl : lv_has ls 3 [(0, .int v0), (1, .int v1)] := hl
  have hx := F.1.1
  have hb := F.1.2.1
  unfold w_J9_floorMod_7cf53 at h
  refine lv_iload_n hx hb dJ9_floorMod_7cf53_0 rfl (lv_at hl 0 rfl) ?_
  refine lv_iload_n hx hb dJ9_floorMod_7cf53_1 rfl (lv_at hl 1 rfl) ?_
  refine lv_irem hx hb dJ9_floorMod_7cf53_2 h.1 ?_
  replace h := h.2
  refine lv_istore_n (lv' := [(2, .int (v0 - v0 / v1 * v1)), (0, .int v0), (1, .int v1)]) hx hb dJ9_floorMod_7cf53_3 rfl hl (by decide) rfl (fun ls hl9 => ?_)
  replace hl := hl9
  clear hl9
  refine lv_iload_n hx hb dJ9_floorMod_7cf53_4 rfl (lv_at hl 1 rfl) ?_
  refine lv_iload_n hx hb dJ9_floorMod_7cf53_5 rfl (lv_at hl 2 rfl) ?_
  refine lv_ixor hx hb dJ9_floorMod_7cf53_6 ?_
  refine lv_if_ge (tgt := 18) hx hb dJ9_floorMod_7cf53_7 (by decide) (fun hc1 => ?_) (fun hc1 => ?_)
  · have h := h.1 hc1
    refine lv_iload_n hx hb dJ9_floorMod_7cf53_18 rfl (lv_at hl 0 rfl) ?_
    exact retI F hr hW h dJ9_floorMod_7cf53_19
  · have h := h.2 hc1
    refine lv_iload_n hx hb dJ9_floorMod_7cf53_10 rfl (lv_at hl 0 rfl) ?_
    refine lv_if_eq (tgt := 18) hx hb dJ9_floorMod_7cf53_11 (by decide) (fun hc2 => ?_) (fun hc2 => ?_)
    · have h := h.1 hc2
      refine lv_iload_n hx hb dJ9_floorMod_7cf53_18 rfl (lv_at hl 0 rfl) ?_
      exact retI F hr hW h dJ9_floorMod_7cf53_19
    · have h := h.2 hc2
      refine lv_iload_n hx hb dJ9_floorMod_7cf53_14 rfl (lv_at hl 0 rfl) ?_
      refine lv_iload_n hx hb dJ9_floorMod_7cf53_15 rfl (lv_at hl 2 rfl) ?_
      refine lv_iadd hx hb dJ9_floorMod_7cf53_16 ?_
      exact retI F hr hW h dJ9_floorMod_7cf53_17
set_option maxHeartbeats 4000000 in
set_option maxRecDepth 100000 in
theorem t_Jx4a65c_grow_92f84_20 {p : Program} {l : Launch} {e : Env} {s : State} {m : MethodId} {below : List Frame} {meth : Method} {c : Code} {G : Ctx} (v0 : Nat) (v1 : Int32) (MC MS : Nat) (F : Fx p l s m ([.ref v0, .int v1]).toArray meth c cJx4a65c_grow_92f84 4 RJx4a65c G) (hr : meth.sig.returnType = (some (.array (.object "java/lang/Object")))) (K : Option Nat → Mem → Prop) : ∀ (v2 : Int32) (mc ms : Nat) (u : Mem) (H : Heap) (locs : List Loc) (cells slots : Nat) (ls : Array Slot), w_Jx4a65c_grow_92f84_20 G v0 v1 K v2 mc ms u → Wd G u s H locs → lv_has ls 4 [(0, .ref v0), (1, .int v1), (2, .int v2)] → cells + mc = MC → slots + ms = MS → W p l e { frames := 3, cells := MC, slots := MS, locals := 104 } s m ([.ref v0, .int v1]).toArray below meth c H locs cells slots (MQ below (va_Qq K (fun u' t => Wp G u' t.heap) (Ab G)) ([.ref v0, .int v1]).toArray s MC MS (Ab G)) (F0 m 20 ls []) := by
  have hx := F.1.1
  have hb := F.1.2.1
  intro v2 mc ms u H locs cells slots ls h hW hl hbc hbs
  unfold w_Jx4a65c_grow_92f84_20 at h
  refine lv_iload_n hx hb dJx4a65c_grow_92f84_20 rfl (lv_at hl 2 rfl) ?_
  refine lv_iload_n hx hb dJx4a65c_grow_92f84_21 rfl (lv_at hl 1 rfl) ?_
  refine lv_iload_n hx hb dJx4a65c_grow_92f84_22 rfl (lv_at hl 2 rfl) ?_
  refine lv_isub hx hb dJx4a65c_grow_92f84_23 ?_
  refine lv_iload_n hx hb dJx4a65c_grow_92f84_24 rfl (lv_at hl 2 rfl) ?_
  refine lv_iconst (v := (1 : Int32)) hx hb dJx4a65c_grow_92f84_25 (by decide) ?_
  refine lv_ishr hx hb dJx4a65c_grow_92f84_26 ?_
  refine cI (runS (n := 3) (As := [.int v2, .int (v1 - v2), .int (v2 >>> ((1 : Int32) &&& 31))]) (rest := []) F hW (c_J8_newLength_cabcc F.2.2.2 G v2 (v1 - v2) (v2 >>> ((1 : Int32) &&& 31)) u _ h) q_131 q_132 q_133 q_134 (by decide +kernel) ⟨Nat.le_of_ble_eq_true rfl, Nat.le_of_ble_eq_true rfl⟩ dJx4a65c_grow_92f84_27 rfl hl.1 (Nat.le_of_ble_eq_true rfl) ⟨Nat.le.intro hbc, Nat.le.intro hbs⟩) hW (fun r30 u29 h9 H locs hW => ?_)
  replace h := h9
  clear h9
  refine lv_istore_n (lv' := [(3, .int r30), (0, .ref v0), (1, .int v1), (2, .int v2)]) hx hb dJx4a65c_grow_92f84_30 rfl hl (by decide) rfl (fun ls hl9 => ?_)
  replace hl := hl9
  clear hl9
  refine lv_aload_n hx hb dJx4a65c_grow_92f84_31 rfl (lv_at hl 1 rfl) ?_
  refine lv_aload_n hx hb dJx4a65c_grow_92f84_32 rfl (lv_at hl 1 rfl) ?_
  refine gf_0_1 F hW h.1 q_32 dJx4a65c_grow_92f84_33 ?_
  replace h := h.2
  obtain ⟨r31, er⟩ : ∃ z, z = mR u29 1 v0 := ⟨_, rfl⟩
  rw [← er]
  replace h := h r31 er
  clear er
  refine lv_iload_n hx hb dJx4a65c_grow_92f84_36 rfl (lv_at hl 0 rfl) ?_
  obtain ⟨a32, ea, h⟩ := h
  subst ea
  obtain ⟨c35, b36, h1, h2, h⟩ := h
  have hf1 := bdf hbc h1
  have hf2 := bdf hbs h2
  refine cQ (runS (n := 2) (As := [.ref a32, .int r30]) (rest := [.ref v0]) F hW (c_J7_copyOf_1904c F.2.2.2 G a32 r30 c35 b36 u29 _ h) q_140 q_141 q_142 q_143 (by decide +kernel) ⟨Nat.le_of_ble_eq_true rfl, Nat.le_of_ble_eq_true rfl⟩ dJx4a65c_grow_92f84_37 rfl hl.1 (Nat.le_of_ble_eq_true rfl) ⟨hf1, hf2⟩) hW (fun r34 u33 h9 H locs hW => ?_)
  replace h := h9
  clear h9
  replace hbc := bdg hbc h1
  replace hbs := bdg hbs h2
  clear h1 h2 hf1 hf2
  refine lv_dup_x1 hx hb dJx4a65c_grow_92f84_40 (va_rf_cat _) rfl ?_
  refine pf_0_1 F hW (x := r34) h.1 q_32 dJx4a65c_grow_92f84_41 (fun H locs hW => ?_)
  replace h := h.2
  obtain ⟨u37, eu⟩ : ∃ z, z = setR u33 1 v0 r34 := ⟨_, rfl⟩
  rw [← eu] at hW
  replace h := h u37 eu
  clear eu
  refine W.widen (k := MC) (n := MS) (Nat.le.intro hbc) (Nat.le.intro hbs) ?_
  exact retQ (v := r34) F hr (Or.inr ⟨_, rfl⟩) hW h dJx4a65c_grow_92f84_44
set_option maxHeartbeats 4000000 in
set_option maxRecDepth 100000 in
theorem c_Jx4a65c_grow_92f84 {l : Launch} (hst : l.stackTraces = false) (G : Ctx) (v0 : Nat) (v1 : Int32) (MC MS : Nat) (u : Mem) (K : Option Nat → Mem → Prop) (h : w_Jx4a65c_grow_92f84 G v0 v1 MC MS u K) : CtQ l yJx4a65c_grow_92f84 (.code yJx4a65c_grow_92f84 cJx4a65c_grow_92f84 4 (some (.array (.object "java/lang/Object")))) 3 104 MC MS G [.ref v0, .int v1] u K := by
  refine entM (by first | decide | decide +kernel) hst (by first | decide | exact Nat.le_of_ble_eq_true rfl) (fun p e s m below meth c ls F hr hnm hW hl => ?_)
  have F : Fx p l s m ([.ref v0, .int v1]).toArray meth c cJx4a65c_grow_92f84 4 RJx4a65c G := F
  have hnm : meth.name = "grow" := hnm
  have hl : lv_has ls 4 [(0, .ref v0), (1, .int v1)] := hl
  have hx := F.1.1
  have hb := F.1.2.1
  have hbc : 0 + MC = MC := Nat.zero_add _
  have hbs : 0 + MS = MS := Nat.zero_add _
  unfold w_Jx4a65c_grow_92f84 at h
  refine lv_aload_n hx hb dJx4a65c_grow_92f84_0 rfl (lv_at hl 0 rfl) ?_
  refine gf_0_1 F hW h.1 q_32 dJx4a65c_grow_92f84_1 ?_
  replace h := h.2
  obtain ⟨r1, er⟩ : ∃ z, z = mR u 1 v0 := ⟨_, rfl⟩
  rw [← er]
  replace h := h r1 er
  clear er
  obtain ⟨a2, ea, h⟩ := h
  subst ea
  obtain ⟨n3, hal, h⟩ := h
  refine rLenE F hW hal dJx4a65c_grow_92f84_4 ?_
  clear hal
  refine lv_istore_n (lv' := [(2, .int (nI n3)), (0, .ref v0), (1, .int v1)]) hx hb dJx4a65c_grow_92f84_5 rfl hl (by decide) rfl (fun ls hl9 => ?_)
  replace hl := hl9
  clear hl9
  refine lv_iload_n hx hb dJx4a65c_grow_92f84_6 rfl (lv_at hl 0 rfl) ?_
  refine lv_if_gt (tgt := 20) hx hb dJx4a65c_grow_92f84_7 (by decide) (fun hc4 => ?_) (fun hc4 => ?_)
  · have h := h.1 hc4
    exact t_Jx4a65c_grow_92f84_20 v0 v1 MC MS F hr K (nI n3) MC MS u _ _ _ _ _ h hW (lv_sub hl [1, 2, 0] rfl) hbc hbs
  · have h := h.2 hc4
    refine lv_aload_n hx hb dJx4a65c_grow_92f84_10 rfl (lv_at hl 1 rfl) ?_
    refine gf_0_1 F hW h.1 q_32 dJx4a65c_grow_92f84_11 ?_
    replace h := h.2
    obtain ⟨r5, er⟩ : ∃ z, z = mR u 1 v0 := ⟨_, rfl⟩
    rw [← er]
    replace h := h r5 er
    clear er
    refine rGets F hW q_31 dJx4a65c_grow_92f84_14 ?_
    refine lv_acmp_eq (rx := r5) (ry := (some (G.2.2 1))) (tgt := 45) hx hb dJx4a65c_grow_92f84_17 (by decide) (fun hc6 => ?_) (fun hc6 => ?_)
    · have h := h.1 hc6
      refine lv_aload_n hx hb dJx4a65c_grow_92f84_45 rfl (lv_at hl 1 rfl) ?_
      refine lv_bipush (v := (10 : Int32)) hx hb dJx4a65c_grow_92f84_46 (by decide) ?_
      refine lv_iload_n hx hb dJx4a65c_grow_92f84_48 rfl (lv_at hl 2 rfl) ?_
      refine rMax F hl.1 q_126 (Nat.le_of_ble_eq_true rfl) (Nat.le_of_ble_eq_true rfl) (Nat.le.intro hbc) (Nat.le.intro hbs) dJx4a65c_grow_92f84_49 ?_
      obtain ⟨n8, eN, hN, h⟩ := h
      refine W.eq (congrArg (fun z => F0 m 52 ls (.int z :: [.ref v0])) eN) ?_
      obtain ⟨h1, h2, h⟩ := h
      refine rNewQ_13 (N := n8) (R := ⟨3, MC, MS, 104⟩) F hW q_130 hbc hbs h1 h2 hN dJx4a65c_grow_92f84_52 (fun q7 H hq hW => ?_)
      replace h := h q7 hq
      replace hbc := bdg hbc h1
      replace hbs := bdg hbs h2
      clear h1 h2
      obtain ⟨u9, eu⟩ : ∃ z, z = mNew u q7 13 n8 := ⟨_, rfl⟩
      rw [← eu] at hW
      replace h := h u9 eu
      clear eu
      refine lv_dup_x1 hx hb dJx4a65c_grow_92f84_55 rfl rfl ?_
      refine pf_0_1 F hW (x := (some q7)) h.1 q_32 dJx4a65c_grow_92f84_56 (fun H locs hW => ?_)
      replace h := h.2
      obtain ⟨u10, eu⟩ : ∃ z, z = setR u9 1 v0 (some q7) := ⟨_, rfl⟩
      rw [← eu] at hW
      replace h := h u10 eu
      clear eu
      refine W.widen (k := MC) (n := MS) (Nat.le.intro hbc) (Nat.le.intro hbs) ?_
      exact retQ (v := (some q7)) F hr (Or.inr ⟨_, rfl⟩) hW h dJx4a65c_grow_92f84_59
    · have h := h.2 hc6
      exact t_Jx4a65c_grow_92f84_20 v0 v1 MC MS F hr K (nI n3) MC MS u _ _ _ _ _ h hW (lv_sub hl [1, 2, 0] rfl) hbc hbs
set_option maxHeartbeats 4000000 in
set_option maxRecDepth 100000 in
theorem c_Jx4a65c_grow_d5877 {l : Launch} (hst : l.stackTraces = false) (G : Ctx) (v0 : Nat) (MC MS : Nat) (u : Mem) (K : Option Nat → Mem → Prop) (h : w_Jx4a65c_grow_d5877 G v0 MC MS u K) : CtQ l yJx4a65c_grow_d5877 (.code yJx4a65c_grow_d5877 cJx4a65c_grow_d5877 1 (some (.array (.object "java/lang/Object")))) 4 127 MC MS G [.ref v0] u K := by
  refine entM (by first | decide | decide +kernel) hst (by first | decide | exact Nat.le_of_ble_eq_true rfl) (fun p e s m below meth c ls F hr hnm hW hl => ?_)
  have F : Fx p l s m ([.ref v0]).toArray meth c cJx4a65c_grow_d5877 1 RJx4a65c G := F
  have hnm : meth.name = "grow" := hnm
  have hl : lv_has ls 1 [(0, .ref v0)] := hl
  have hx := F.1.1
  have hb := F.1.2.1
  have hbc : 0 + MC = MC := Nat.zero_add _
  have hbs : 0 + MS = MS := Nat.zero_add _
  unfold w_Jx4a65c_grow_d5877 at h
  refine lv_aload_n hx hb dJx4a65c_grow_d5877_0 rfl (lv_at hl 0 rfl) ?_
  refine lv_aload_n hx hb dJx4a65c_grow_d5877_1 rfl (lv_at hl 0 rfl) ?_
  refine gf_0_2 F hW h.1 q_96 dJx4a65c_grow_d5877_2 ?_
  replace h := h.2
  refine lv_iconst (v := (1 : Int32)) hx hb dJx4a65c_grow_d5877_5 (by decide) ?_
  refine lv_iadd hx hb dJx4a65c_grow_d5877_6 ?_
  obtain ⟨c3, b4, h1, h2, h⟩ := h
  have hf1 := bdf hbc h1
  have hf2 := bdf hbs h2
  obtain ⟨hob, h⟩ := h
  refine cQ (runV (n := 1) (As := [.int ((mI u 2 v0) + (1 : Int32))]) (rest := []) F hW (c_Jx4a65c_grow_92f84 F.2.2.2 G v0 ((mI u 2 v0) + (1 : Int32)) c3 b4 u _ h) hob (ci := 0) rfl q_122 q_123 q_124 q_16 q_125 rfl (by decide +kernel) ⟨Nat.le_of_ble_eq_true rfl, Nat.le_of_ble_eq_true rfl⟩ dJx4a65c_grow_d5877_7 rfl hl.1 (Nat.le_of_ble_eq_true rfl) ⟨hf1, hf2⟩) hW (fun r2 u1 h9 H locs hW => ?_)
  replace h := h9
  clear h9
  replace hbc := bdg hbc h1
  replace hbs := bdg hbs h2
  clear h1 h2 hf1 hf2
  refine W.widen (k := MC) (n := MS) (Nat.le.intro hbc) (Nat.le.intro hbs) ?_
  exact retQ (v := r2) F hr (Or.inr ⟨_, rfl⟩) hW h dJx4a65c_grow_d5877_10
set_option maxHeartbeats 4000000 in
set_option maxRecDepth 100000 in
theorem t_Jx4a65c_add_72be8_11 {p : Program} {l : Launch} {e : Env} {s : State} {m : MethodId} {below : List Frame} {meth : Method} {c : Code} {G : Ctx} {w2 : Nat} (v0 : Nat) (v1 : Nat) (v3 : Int32) (MC MS : Nat) (F : Fx p l s m ([.ref v0, .ref v1, .ref w2, .int v3]).toArray meth c cJx4a65c_add_72be8 4 RJx4a65c G) (hr : meth.sig.returnType = none) (K : Mem → Prop) : ∀ (v2 : Option Nat) (mc ms : Nat) (u : Mem) (H : Heap) (locs : List Loc) (cells slots : Nat) (ls : Array Slot), w_Jx4a65c_add_72be8_11 G v0 v1 v3 K v2 mc ms u → Wd G u s H locs → lv_has ls 4 [(0, .ref v0), (1, .ref v1), (3, .int v3), (2, va_rf v2)] → cells + mc = MC → slots + ms = MS → W p l e { frames := 5, cells := MC, slots := MS, locals := 147 } s m ([.ref v0, .ref v1, .ref w2, .int v3]).toArray below meth c H locs cells slots (MQ below (va_Qv K (fun u' t => Wp G u' t.heap) (Ab G)) ([.ref v0, .ref v1, .ref w2, .int v3]).toArray s MC MS (Ab G)) (F0 m 11 ls []) := by
  have hx := F.1.1
  have hb := F.1.2.1
  intro v2 mc ms u H locs cells slots ls h hW hl hbc hbs
  unfold w_Jx4a65c_add_72be8_11 at h
  refine rLdn F dJx4a65c_add_72be8_11 rfl (lv_at hl 3 rfl) ?_
  refine lv_iload_n hx hb dJx4a65c_add_72be8_12 rfl (lv_at hl 2 rfl) ?_
  refine lv_aload_n hx hb dJx4a65c_add_72be8_13 rfl (lv_at hl 1 rfl) ?_
  obtain ⟨a13, ea, h⟩ := h
  subst ea
  refine rQast_13 F hW h.1 h.2.1 h.2.2.1 dJx4a65c_add_72be8_14 (fun H locs hW => ?_)
  replace h := h.2.2.2
  obtain ⟨u14, eu⟩ : ∃ z, z = setB u a13 (v3.toNatClampNeg) (some v1) := ⟨_, rfl⟩
  rw [← eu] at hW
  replace h := h u14 eu
  clear eu
  refine lv_aload_n hx hb dJx4a65c_add_72be8_15 rfl (lv_at hl 0 rfl) ?_
  refine lv_iload_n hx hb dJx4a65c_add_72be8_16 rfl (lv_at hl 2 rfl) ?_
  refine lv_iconst (v := (1 : Int32)) hx hb dJx4a65c_add_72be8_17 (by decide) ?_
  refine lv_iadd hx hb dJx4a65c_add_72be8_18 ?_
  refine pf_0_2 F hW (x := (v3 + (1 : Int32))) h.1 q_96 dJx4a65c_add_72be8_19 (fun H locs hW => ?_)
  replace h := h.2
  obtain ⟨u15, eu⟩ : ∃ z, z = setI u14 2 v0 (v3 + (1 : Int32)) := ⟨_, rfl⟩
  rw [← eu] at hW
  replace h := h u15 eu
  clear eu
  refine W.widen (k := MC) (n := MS) (Nat.le.intro hbc) (Nat.le.intro hbs) ?_
  exact retV F hr hW h dJx4a65c_add_72be8_22
set_option maxHeartbeats 4000000 in
set_option maxRecDepth 100000 in
theorem c_Jx4a65c_add_72be8 {l : Launch} (hst : l.stackTraces = false) (G : Ctx) (v0 : Nat) (v1 : Nat) (v2 : Nat) (v3 : Int32) (MC MS : Nat) (u : Mem) (K : Mem → Prop) (h : w_Jx4a65c_add_72be8 G v0 v1 v2 v3 MC MS u K) : CtV l yJx4a65c_add_72be8 (.code yJx4a65c_add_72be8 cJx4a65c_add_72be8 4 none) 5 147 MC MS G [.ref v0, .ref v1, .ref v2, .int v3] u K := by
  refine entM (by first | decide | decide +kernel) hst (by first | decide | exact Nat.le_of_ble_eq_true rfl) (fun p e s m below meth c ls F hr hnm hW hl => ?_)
  have F : Fx p l s m ([.ref v0, .ref v1, .ref v2, .int v3]).toArray meth c cJx4a65c_add_72be8 4 RJx4a65c G := F
  have hnm : meth.name = "add" := hnm
  have hl : lv_has ls 4 [(0, .ref v0), (1, .ref v1), (2, .ref v2), (3, .int v3)] := hl
  have hx := F.1.1
  have hb := F.1.2.1
  have hbc : 0 + MC = MC := Nat.zero_add _
  have hbs : 0 + MS = MS := Nat.zero_add _
  unfold w_Jx4a65c_add_72be8 at h
  refine lv_iload_n hx hb dJx4a65c_add_72be8_0 rfl (lv_at hl 3 rfl) ?_
  refine lv_aload_n hx hb dJx4a65c_add_72be8_1 rfl (lv_at hl 2 rfl) ?_
  obtain ⟨n1, hal, h⟩ := h
  refine rLenE F hW hal dJx4a65c_add_72be8_2 ?_
  clear hal
  refine lv_icmp_ne (tgt := 11) hx hb dJx4a65c_add_72be8_3 (by decide) (fun hc2 => ?_) (fun hc2 => ?_)
  · have h := h.2 hc2
    exact t_Jx4a65c_add_72be8_11 v0 v1 v3 MC MS F hr K (some v2) MC MS u _ _ _ _ _ h hW (lv_sub hl [0, 1, 3, 2] rfl) hbc hbs
  · have h := h.1 hc2
    refine lv_aload_n hx hb dJx4a65c_add_72be8_6 rfl (lv_at hl 0 rfl) ?_
    obtain ⟨c5, b6, h1, h2, h⟩ := h
    have hf1 := bdf hbc h1
    have hf2 := bdf hbs h2
    obtain ⟨hob, h⟩ := h
    refine cQ (runV (n := 0) (As := []) (rest := []) F hW (c_Jx4a65c_grow_d5877 F.2.2.2 G v0 c5 b6 u _ h) hob (ci := 0) rfl q_118 q_119 q_120 q_16 q_121 rfl (by decide +kernel) ⟨Nat.le_of_ble_eq_true rfl, Nat.le_of_ble_eq_true rfl⟩ dJx4a65c_add_72be8_7 rfl hl.1 (Nat.le_of_ble_eq_true rfl) ⟨hf1, hf2⟩) hW (fun r4 u3 h9 H locs hW => ?_)
    replace h := h9
    clear h9
    replace hbc := bdg hbc h1
    replace hbs := bdg hbs h2
    clear h1 h2 hf1 hf2
    refine rStn (lv' := [(2, va_rf r4), (0, .ref v0), (1, .ref v1), (3, .int v3)]) F dJx4a65c_add_72be8_10 rfl hl (by decide) rfl (fun ls hl9 => ?_)
    replace hl := hl9
    clear hl9
    exact t_Jx4a65c_add_72be8_11 v0 v1 v3 MC MS F hr K r4 (MC - c5) (MS - b6) u3 _ _ _ _ _ h hW (lv_sub hl [1, 2, 3, 0] rfl) hbc hbs
set_option maxHeartbeats 4000000 in
set_option maxRecDepth 100000 in
theorem c_Jx4a65c_add_9ea2d {l : Launch} (hst : l.stackTraces = false) (G : Ctx) (v0 : Nat) (v1 : Nat) (MC MS : Nat) (u : Mem) (K : Int32 → Mem → Prop) (h : w_Jx4a65c_add_9ea2d G v0 v1 MC MS u K) : CtI l yJx4a65c_add_9ea2d (.code yJx4a65c_add_9ea2d cJx4a65c_add_9ea2d 2 (some .boolean)) 6 170 MC MS G [.ref v0, .ref v1] u K := by
  refine entM (by first | decide | decide +kernel) hst (by first | decide | exact Nat.le_of_ble_eq_true rfl) (fun p e s m below meth c ls F hr hnm hW hl => ?_)
  have F : Fx p l s m ([.ref v0, .ref v1]).toArray meth c cJx4a65c_add_9ea2d 2 RJx4a65c G := F
  have hnm : meth.name = "add" := hnm
  have hl : lv_has ls 2 [(0, .ref v0), (1, .ref v1)] := hl
  have hx := F.1.1
  have hb := F.1.2.1
  have hbc : 0 + MC = MC := Nat.zero_add _
  have hbs : 0 + MS = MS := Nat.zero_add _
  unfold w_Jx4a65c_add_9ea2d at h
  refine lv_aload_n hx hb dJx4a65c_add_9ea2d_0 rfl (lv_at hl 0 rfl) ?_
  refine lv_dup hx hb dJx4a65c_add_9ea2d_1 rfl ?_
  refine gf_0_0 F hW h.1 q_112 dJx4a65c_add_9ea2d_2 ?_
  replace h := h.2
  refine lv_iconst (v := (1 : Int32)) hx hb dJx4a65c_add_9ea2d_5 (by decide) ?_
  refine lv_iadd hx hb dJx4a65c_add_9ea2d_6 ?_
  refine pf_0_0 F hW (x := ((mI u 0 v0) + (1 : Int32))) h.1 q_112 dJx4a65c_add_9ea2d_7 (fun H locs hW => ?_)
  replace h := h.2
  obtain ⟨u1, eu⟩ : ∃ z, z = setI u 0 v0 ((mI u 0 v0) + (1 : Int32)) := ⟨_, rfl⟩
  rw [← eu] at hW
  replace h := h u1 eu
  clear eu
  refine lv_aload_n hx hb dJx4a65c_add_9ea2d_10 rfl (lv_at hl 0 rfl) ?_
  refine lv_aload_n hx hb dJx4a65c_add_9ea2d_11 rfl (lv_at hl 1 rfl) ?_
  refine lv_aload_n hx hb dJx4a65c_add_9ea2d_12 rfl (lv_at hl 0 rfl) ?_
  refine gf_0_1 F hW h.1 q_32 dJx4a65c_add_9ea2d_13 ?_
  replace h := h.2
  obtain ⟨r2, er⟩ : ∃ z, z = mR u1 1 v0 := ⟨_, rfl⟩
  rw [← er]
  replace h := h r2 er
  clear er
  refine lv_aload_n hx hb dJx4a65c_add_9ea2d_16 rfl (lv_at hl 0 rfl) ?_
  refine gf_0_2 F hW h.1 q_96 dJx4a65c_add_9ea2d_17 ?_
  replace h := h.2
  obtain ⟨a3, ea, h⟩ := h
  subst ea
  obtain ⟨c6, b7, h1, h2, h⟩ := h
  have hf1 := bdf hbc h1
  have hf2 := bdf hbs h2
  obtain ⟨hob, h⟩ := h
  refine cV (runV (n := 3) (As := [.ref v1, .ref a3, .int (mI u1 2 v0)]) (rest := []) F hW (c_Jx4a65c_add_72be8 F.2.2.2 G v0 v1 a3 (mI u1 2 v0) c6 b7 u1 _ h) hob (ci := 0) rfl q_114 q_115 q_116 q_16 q_117 rfl (by decide +kernel) ⟨Nat.le_of_ble_eq_true rfl, Nat.le_of_ble_eq_true rfl⟩ dJx4a65c_add_9ea2d_20 rfl hl.1 (Nat.le_of_ble_eq_true rfl) ⟨hf1, hf2⟩) hW (fun u4 h9 H locs hW => ?_)
  replace h := h9
  clear h9
  replace hbc := bdg hbc h1
  replace hbs := bdg hbs h2
  clear h1 h2 hf1 hf2
  refine lv_iconst (v := (1 : Int32)) hx hb dJx4a65c_add_9ea2d_23 (by decide) ?_
  refine W.widen (k := MC) (n := MS) (Nat.le.intro hbc) (Nat.le.intro hbs) ?_
  exact retZ F hr hW h.1 h.2 dJx4a65c_add_9ea2d_24
set_option maxHeartbeats 4000000 in
set_option maxRecDepth 100000 in
theorem c_Jx4a65c_elementData_915e3 {l : Launch} (hst : l.stackTraces = false) (G : Ctx) (v0 : Nat) (v1 : Int32) (u : Mem) (K : Option Nat → Mem → Prop) (h : w_Jx4a65c_elementData_915e3 G v0 v1 u K) : CtQ l yJx4a65c_elementData_915e3 (.code yJx4a65c_elementData_915e3 cJx4a65c_elementData_915e3 2 (some (.object "java/lang/Object"))) 0 0 0 0 G [.ref v0, .int v1] u K := by
  refine entM (by first | decide | decide +kernel) hst (by first | decide | exact Nat.le_of_ble_eq_true rfl) (fun p e s m below meth c ls F hr hnm hW hl => ?_)
  have F : Fx p l s m ([.ref v0, .int v1]).toArray meth c cJx4a65c_elementData_915e3 2 RJx4a65c G := F
  have hnm : meth.name = "elementData" := hnm
  have hl : lv_has ls 2 [(0, .ref v0), (1, .int v1)] := hl
  have hx := F.1.1
  have hb := F.1.2.1
  unfold w_Jx4a65c_elementData_915e3 at h
  refine lv_aload_n hx hb dJx4a65c_elementData_915e3_0 rfl (lv_at hl 0 rfl) ?_
  refine gf_0_1 F hW h.1 q_32 dJx4a65c_elementData_915e3_1 ?_
  replace h := h.2
  obtain ⟨r1, er⟩ : ∃ z, z = mR u 1 v0 := ⟨_, rfl⟩
  rw [← er]
  replace h := h r1 er
  clear er
  refine lv_iload_n hx hb dJx4a65c_elementData_915e3_4 rfl (lv_at hl 1 rfl) ?_
  obtain ⟨a2, ea, h⟩ := h
  subst ea
  refine rQald_13 F hW h.1 h.2.1 dJx4a65c_elementData_915e3_5 ?_
  replace h := h.2.2
  obtain ⟨r3, er⟩ : ∃ z, z = mB u a2 v1.toNatClampNeg := ⟨_, rfl⟩
  rw [← er]
  replace h := h r3 er
  clear er
  exact retQ (v := r3) F hr (Or.inl ⟨_, rfl⟩) hW h dJx4a65c_elementData_915e3_6
set_option maxHeartbeats 4000000 in
set_option maxRecDepth 100000 in
theorem t_Jx4a65c_fastRemove_b59b0_34 {p : Program} {l : Launch} {e : Env} {s : State} {m : MethodId} {below : List Frame} {meth : Method} {c : Code} {G : Ctx} (v0 : Nat) (v1 : Nat) (v2 : Int32) (F : Fx p l s m ([.ref v0, .ref v1, .int v2]).toArray meth c cJx4a65c_fastRemove_b59b0 4 RJx4a65c G) (hr : meth.sig.returnType = none) (K : Mem → Prop) : ∀ (v3 : Int32) (u : Mem) (H : Heap) (locs : List Loc) (ls : Array Slot), w_Jx4a65c_fastRemove_b59b0_34 G v0 v1 v2 K v3 u → Wd G u s H locs → lv_has ls 4 [(0, .ref v0), (1, .ref v1), (2, .int v2), (3, .int v3)] → W p l e { frames := 1, cells := 0, slots := 0, locals := 60 } s m ([.ref v0, .ref v1, .int v2]).toArray below meth c H locs 0 0 (MQ below (va_Qv K (fun u' t => Wp G u' t.heap) (Ab G)) ([.ref v0, .ref v1, .int v2]).toArray s 0 0 (Ab G)) (F0 m 34 ls []) := by
  have hx := F.1.1
  have hb := F.1.2.1
  intro v3 u H locs ls h hW hl
  unfold w_Jx4a65c_fastRemove_b59b0_34 at h
  refine lv_aload_n hx hb dJx4a65c_fastRemove_b59b0_34 rfl (lv_at hl 1 rfl) ?_
  refine lv_aload_n hx hb dJx4a65c_fastRemove_b59b0_35 rfl (lv_at hl 0 rfl) ?_
  refine lv_iload_n hx hb dJx4a65c_fastRemove_b59b0_36 rfl (lv_at hl 3 rfl) ?_
  refine lv_dup_x1 hx hb dJx4a65c_fastRemove_b59b0_37 rfl rfl ?_
  refine pf_0_2 F hW (x := v3) h.1 q_96 dJx4a65c_fastRemove_b59b0_38 (fun H locs hW => ?_)
  replace h := h.2
  obtain ⟨u8, eu⟩ : ∃ z, z = setI u 2 v0 v3 := ⟨_, rfl⟩
  rw [← eu] at hW
  replace h := h u8 eu
  clear eu
  refine lv_null hx hb dJx4a65c_fastRemove_b59b0_41 ?_
  refine rQastN F hW h.1 h.2.1 dJx4a65c_fastRemove_b59b0_42 (fun H locs hW => ?_)
  replace h := h.2.2
  obtain ⟨u9, eu⟩ : ∃ z, z = setB u8 v1 (v3.toNatClampNeg) none := ⟨_, rfl⟩
  rw [← eu] at hW
  replace h := h u9 eu
  clear eu
  exact retV F hr hW h dJx4a65c_fastRemove_b59b0_43
set_option maxHeartbeats 4000000 in
set_option maxRecDepth 100000 in
theorem c_Jx4a65c_fastRemove_b59b0 {l : Launch} (hst : l.stackTraces = false) (G : Ctx) (v0 : Nat) (v1 : Nat) (v2 : Int32) (u : Mem) (K : Mem → Prop) (h : w_Jx4a65c_fastRemove_b59b0 G v0 v1 v2 u K) : CtV l yJx4a65c_fastRemove_b59b0 (.code yJx4a65c_fastRemove_b59b0 cJx4a65c_fastRemove_b59b0 4 none) 1 60 0 0 G [.ref v0, .ref v1, .int v2] u K := by
  refine entM (by first | decide | decide +kernel) hst (by first | decide | exact Nat.le_of_ble_eq_true rfl) (fun p e s m below meth c ls F hr hnm hW hl => ?_)
  have F : Fx p l s m ([.ref v0, .ref v1, .int v2]).toArray meth c cJx4a65c_fastRemove_b59b0 4 RJx4a65c G := F
  have hnm : meth.name = "fastRemove" := hnm
  have hl : lv_has ls 4 [(0, .ref v0), (1, .ref v1), (2, .int v2)] := hl
  have hx := F.1.1
  have hb := F.1.2.1
  unfold w_Jx4a65c_fastRemove_b59b0 at h
  refine lv_aload_n hx hb dJx4a65c_fastRemove_b59b0_0 rfl (lv_at hl 0 rfl) ?_
  refine lv_dup hx hb dJx4a65c_fastRemove_b59b0_1 rfl ?_
  refine gf_0_0 F hW h.1 q_112 dJx4a65c_fastRemove_b59b0_2 ?_
  replace h := h.2
  refine lv_iconst (v := (1 : Int32)) hx hb dJx4a65c_fastRemove_b59b0_5 (by decide) ?_
  refine lv_iadd hx hb dJx4a65c_fastRemove_b59b0_6 ?_
  refine pf_0_0 F hW (x := ((mI u 0 v0) + (1 : Int32))) h.1 q_112 dJx4a65c_fastRemove_b59b0_7 (fun H locs hW => ?_)
  replace h := h.2
  obtain ⟨u1, eu⟩ : ∃ z, z = setI u 0 v0 ((mI u 0 v0) + (1 : Int32)) := ⟨_, rfl⟩
  rw [← eu] at hW
  replace h := h u1 eu
  clear eu
  refine lv_aload_n hx hb dJx4a65c_fastRemove_b59b0_10 rfl (lv_at hl 0 rfl) ?_
  refine gf_0_2 F hW h.1 q_96 dJx4a65c_fastRemove_b59b0_11 ?_
  replace h := h.2
  refine lv_iconst (v := (1 : Int32)) hx hb dJx4a65c_fastRemove_b59b0_14 (by decide) ?_
  refine lv_isub hx hb dJx4a65c_fastRemove_b59b0_15 ?_
  refine lv_dup hx hb dJx4a65c_fastRemove_b59b0_16 rfl ?_
  refine lv_istore_n (lv' := [(3, .int ((mI u1 2 v0) - (1 : Int32))), (0, .ref v0), (1, .ref v1), (2, .int v2)]) hx hb dJx4a65c_fastRemove_b59b0_17 rfl hl (by decide) rfl (fun ls hl9 => ?_)
  replace hl := hl9
  clear hl9
  refine lv_iload_n hx hb dJx4a65c_fastRemove_b59b0_18 rfl (lv_at hl 3 rfl) ?_
  refine lv_icmp_le (tgt := 34) hx hb dJx4a65c_fastRemove_b59b0_19 (by decide) (fun hc2 => ?_) (fun hc2 => ?_)
  · have h := h.1 hc2
    exact t_Jx4a65c_fastRemove_b59b0_34 v0 v1 v2 F hr K ((mI u1 2 v0) - (1 : Int32)) u1 _ _ _ h hW (lv_sub hl [1, 2, 3, 0] rfl)
  · have h := h.2 hc2
    refine lv_aload_n hx hb dJx4a65c_fastRemove_b59b0_22 rfl (lv_at hl 2 rfl) ?_
    refine lv_iload_n hx hb dJx4a65c_fastRemove_b59b0_23 rfl (lv_at hl 3 rfl) ?_
    refine lv_iconst (v := (1 : Int32)) hx hb dJx4a65c_fastRemove_b59b0_24 (by decide) ?_
    refine lv_iadd hx hb dJx4a65c_fastRemove_b59b0_25 ?_
    refine lv_aload_n hx hb dJx4a65c_fastRemove_b59b0_26 rfl (lv_at hl 2 rfl) ?_
    refine lv_iload_n hx hb dJx4a65c_fastRemove_b59b0_27 rfl (lv_at hl 3 rfl) ?_
    refine lv_iload_n hx hb dJx4a65c_fastRemove_b59b0_28 rfl (lv_at hl 0 rfl) ?_
    refine lv_iload_n hx hb dJx4a65c_fastRemove_b59b0_29 rfl (lv_at hl 3 rfl) ?_
    refine lv_isub hx hb dJx4a65c_fastRemove_b59b0_30 ?_
    obtain ⟨h1, h2, h3, h4, h5, h6, h7, ⟨ci, hci, hel⟩, h⟩ := h
    refine rCopy F hW hl.1 q_246 h1 h2 h3 h4 h5 h6 h7 hci hel (Nat.le_of_ble_eq_true rfl) (Nat.le_of_ble_eq_true rfl) dJx4a65c_fastRemove_b59b0_31 (fun H locs hW => ?_)
    clear h1 h2 h3 h4 h5 h6 h7 hci hel
    obtain ⟨u3, eu⟩ : ∃ z, z = setC u1 v1 (va_cpy (mB u1 v1) (mB u1 v1) (v2 + (1 : Int32)).toNatClampNeg v2.toNatClampNeg (((mI u1 2 v0) - (1 : Int32)) - v2).toNatClampNeg) := ⟨_, rfl⟩
    rw [← eu] at hW
    replace h := h u3 eu
    clear eu
    exact t_Jx4a65c_fastRemove_b59b0_34 v0 v1 v2 F hr K ((mI u1 2 v0) - (1 : Int32)) u3 _ _ _ h hW (lv_sub hl [1, 2, 3, 0] rfl)
set_option maxHeartbeats 4000000 in
set_option maxRecDepth 100000 in
theorem c_Jx4a65c_get_915e3 {l : Launch} (hst : l.stackTraces = false) (G : Ctx) (v0 : Nat) (v1 : Int32) (u : Mem) (K : Option Nat → Mem → Prop) (h : w_Jx4a65c_get_915e3 G v0 v1 u K) : CtQ l yJx4a65c_get_915e3 (.code yJx4a65c_get_915e3 cJx4a65c_get_915e3 2 (some (.object "java/lang/Object"))) 2 43 0 0 G [.ref v0, .int v1] u K := by
  refine entM (by first | decide | decide +kernel) hst (by first | decide | exact Nat.le_of_ble_eq_true rfl) (fun p e s m below meth c ls F hr hnm hW hl => ?_)
  have F : Fx p l s m ([.ref v0, .int v1]).toArray meth c cJx4a65c_get_915e3 2 RJx4a65c G := F
  have hnm : meth.name = "get" := hnm
  have hl : lv_has ls 2 [(0, .ref v0), (1, .int v1)] := hl
  have hx := F.1.1
  have hb := F.1.2.1
  unfold w_Jx4a65c_get_915e3 at h
  refine lv_iload_n hx hb dJx4a65c_get_915e3_0 rfl (lv_at hl 1 rfl) ?_
  refine lv_aload_n hx hb dJx4a65c_get_915e3_1 rfl (lv_at hl 0 rfl) ?_
  refine gf_0_2 F hW h.1 q_96 dJx4a65c_get_915e3_2 ?_
  replace h := h.2
  refine cI (runS (n := 2) (As := [.int v1, .int (mI u 2 v0)]) (rest := []) F hW (c_J15_checkIndex_7cf53 F.2.2.2 G v1 (mI u 2 v0) u _ h) q_219 q_220 q_221 q_222 (by decide +kernel) ⟨Nat.le_of_ble_eq_true rfl, Nat.le_of_ble_eq_true rfl⟩ dJx4a65c_get_915e3_5 rfl hl.1 (Nat.le_of_ble_eq_true rfl) ⟨Nat.zero_le _, Nat.zero_le _⟩) hW (fun r2 u1 h9 H locs hW => ?_)
  replace h := h9
  clear h9
  refine lv_pop hx hb dJx4a65c_get_915e3_8 rfl ?_
  refine lv_aload_n hx hb dJx4a65c_get_915e3_9 rfl (lv_at hl 0 rfl) ?_
  refine lv_iload_n hx hb dJx4a65c_get_915e3_10 rfl (lv_at hl 1 rfl) ?_
  obtain ⟨hob, h⟩ := h
  refine cQ (runV (n := 1) (As := [.int v1]) (rest := []) F hW (c_Jx4a65c_elementData_915e3 F.2.2.2 G v0 v1 u1 _ h) hob (ci := 0) rfl q_227 q_228 q_229 q_16 q_230 rfl (by decide +kernel) ⟨Nat.le_of_ble_eq_true rfl, Nat.le_of_ble_eq_true rfl⟩ dJx4a65c_get_915e3_11 rfl hl.1 (Nat.le_of_ble_eq_true rfl) ⟨Nat.zero_le _, Nat.zero_le _⟩) hW (fun r4 u3 h9 H locs hW => ?_)
  replace h := h9
  clear h9
  exact retQ (v := r4) F hr (Or.inl ⟨_, rfl⟩) hW h dJx4a65c_get_915e3_14
set_option maxHeartbeats 4000000 in
set_option maxRecDepth 100000 in
theorem c_Jxa1e45_init_da8c8 {l : Launch} (hst : l.stackTraces = false) (G : Ctx) (v0 : Nat) (u : Mem) (K : Mem → Prop) (h : w_Jxa1e45_init_da8c8 G v0 u K) : CtV l yJxa1e45_init_da8c8 (.code yJxa1e45_init_da8c8 cJxa1e45_init_da8c8 1 none) 1 30 0 0 G [.ref v0] u K := by
  refine entM (by first | decide | decide +kernel) hst (by first | decide | exact Nat.le_of_ble_eq_true rfl) (fun p e s m below meth c ls F hr hnm hW hl => ?_)
  have F : Fx p l s m ([.ref v0]).toArray meth c cJxa1e45_init_da8c8 1 RJxa1e45 G := F
  have hnm : meth.name = "<init>" := hnm
  have hl : lv_has ls 1 [(0, .ref v0)] := hl
  have hx := F.1.1
  have hb := F.1.2.1
  unfold w_Jxa1e45_init_da8c8 at h
  refine lv_aload_n hx hb dJxa1e45_init_da8c8_0 rfl (lv_at hl 0 rfl) ?_
  refine W.objInit hx hb F.1.2.2.2.1 (F.1.2.2.2.2 _ q_42) (F.1.2.2.2.2 _ q_8) (F.1.2.2.2.2 _ q_9) rfl (by rw [F.1.2.2.1]; exact hl.1) rfl dJxa1e45_init_da8c8_1 (Nat.le_of_ble_eq_true rfl) (Nat.le_of_ble_eq_true rfl) ?_
  refine W.eq (g2 := F0 m 4 ls []) rfl ?_
  exact retV F hr hW h dJxa1e45_init_da8c8_4
set_option maxHeartbeats 4000000 in
set_option maxRecDepth 100000 in
theorem c_Jxc12de_init_da8c8 {l : Launch} (hst : l.stackTraces = false) (G : Ctx) (v0 : Nat) (u : Mem) (K : Mem → Prop) (h : w_Jxc12de_init_da8c8 G v0 u K) : CtV l yJxc12de_init_da8c8 (.code yJxc12de_init_da8c8 cJxc12de_init_da8c8 1 none) 2 50 0 0 G [.ref v0] u K := by
  refine entM (by first | decide | decide +kernel) hst (by first | decide | exact Nat.le_of_ble_eq_true rfl) (fun p e s m below meth c ls F hr hnm hW hl => ?_)
  have F : Fx p l s m ([.ref v0]).toArray meth c cJxc12de_init_da8c8 1 RJxc12de G := F
  have hnm : meth.name = "<init>" := hnm
  have hl : lv_has ls 1 [(0, .ref v0)] := hl
  have hx := F.1.1
  have hb := F.1.2.1
  unfold w_Jxc12de_init_da8c8 at h
  refine lv_aload_n hx hb dJxc12de_init_da8c8_0 rfl (lv_at hl 0 rfl) ?_
  refine cV (runI (n := 0) (As := []) (rest := []) F hW (c_Jxa1e45_init_da8c8 F.2.2.2 G v0 u _ h) q_38 q_39 q_40 q_41 rfl (by decide +kernel) ⟨Nat.le_of_ble_eq_true rfl, Nat.le_of_ble_eq_true rfl⟩ dJxc12de_init_da8c8_1 rfl hl.1 (Nat.le_of_ble_eq_true rfl) ⟨Nat.zero_le _, Nat.zero_le _⟩) hW (fun u1 h9 H locs hW => ?_)
  replace h := h9
  clear h9
  refine lv_aload_n hx hb dJxc12de_init_da8c8_4 rfl (lv_at hl 0 rfl) ?_
  refine lv_iconst (v := (0 : Int32)) hx hb dJxc12de_init_da8c8_5 (by decide) ?_
  refine pa_0_0 F hW (x := (0 : Int32)) h.1 q_37 dJxc12de_init_da8c8_6 (fun H locs hW => ?_)
  replace h := h.2
  obtain ⟨u3, eu⟩ : ∃ z, z = setI u1 0 v0 (0 : Int32) := ⟨_, rfl⟩
  rw [← eu] at hW
  replace h := h u3 eu
  clear eu
  exact retV F hr hW h dJxc12de_init_da8c8_9
set_option maxHeartbeats 4000000 in
set_option maxRecDepth 100000 in
theorem c_Jx4a65c_init_da8c8 {l : Launch} (hst : l.stackTraces = false) (G : Ctx) (v0 : Nat) (u : Mem) (K : Mem → Prop) (h : w_Jx4a65c_init_da8c8 G v0 u K) : CtV l yJx4a65c_init_da8c8 (.code yJx4a65c_init_da8c8 cJx4a65c_init_da8c8 1 none) 3 70 0 0 G [.ref v0] u K := by
  refine entM (by first | decide | decide +kernel) hst (by first | decide | exact Nat.le_of_ble_eq_true rfl) (fun p e s m below meth c ls F hr hnm hW hl => ?_)
  have F : Fx p l s m ([.ref v0]).toArray meth c cJx4a65c_init_da8c8 1 RJx4a65c G := F
  have hnm : meth.name = "<init>" := hnm
  have hl : lv_has ls 1 [(0, .ref v0)] := hl
  have hx := F.1.1
  have hb := F.1.2.1
  unfold w_Jx4a65c_init_da8c8 at h
  refine lv_aload_n hx hb dJx4a65c_init_da8c8_0 rfl (lv_at hl 0 rfl) ?_
  refine cV (runI (n := 0) (As := []) (rest := []) F hW (c_Jxc12de_init_da8c8 F.2.2.2 G v0 u _ h) q_33 q_34 q_35 q_36 rfl (by decide +kernel) ⟨Nat.le_of_ble_eq_true rfl, Nat.le_of_ble_eq_true rfl⟩ dJx4a65c_init_da8c8_1 rfl hl.1 (Nat.le_of_ble_eq_true rfl) ⟨Nat.zero_le _, Nat.zero_le _⟩) hW (fun u1 h9 H locs hW => ?_)
  replace h := h9
  clear h9
  refine lv_aload_n hx hb dJx4a65c_init_da8c8_4 rfl (lv_at hl 0 rfl) ?_
  refine rGets F hW q_31 dJx4a65c_init_da8c8_5 ?_
  refine pf_0_1 F hW (x := (some (G.2.2 1))) h.1 q_32 dJx4a65c_init_da8c8_8 (fun H locs hW => ?_)
  replace h := h.2
  obtain ⟨u3, eu⟩ : ∃ z, z = setR u1 1 v0 (some (G.2.2 1)) := ⟨_, rfl⟩
  rw [← eu] at hW
  replace h := h u3 eu
  clear eu
  exact retV F hr hW h dJx4a65c_init_da8c8_11
set_option maxHeartbeats 4000000 in
set_option maxRecDepth 100000 in
theorem c_Jx4a65c_remove_915e3 {l : Launch} (hst : l.stackTraces = false) (G : Ctx) (v0 : Nat) (v1 : Int32) (u : Mem) (K : Option Nat → Mem → Prop) (h : w_Jx4a65c_remove_915e3 G v0 v1 u K) : CtQ l yJx4a65c_remove_915e3 (.code yJx4a65c_remove_915e3 cJx4a65c_remove_915e3 4 (some (.object "java/lang/Object"))) 2 83 0 0 G [.ref v0, .int v1] u K := by
  refine entM (by first | decide | decide +kernel) hst (by first | decide | exact Nat.le_of_ble_eq_true rfl) (fun p e s m below meth c ls F hr hnm hW hl => ?_)
  have F : Fx p l s m ([.ref v0, .int v1]).toArray meth c cJx4a65c_remove_915e3 4 RJx4a65c G := F
  have hnm : meth.name = "remove" := hnm
  have hl : lv_has ls 4 [(0, .ref v0), (1, .int v1)] := hl
  have hx := F.1.1
  have hb := F.1.2.1
  unfold w_Jx4a65c_remove_915e3 at h
  refine lv_iload_n hx hb dJx4a65c_remove_915e3_0 rfl (lv_at hl 1 rfl) ?_
  refine lv_aload_n hx hb dJx4a65c_remove_915e3_1 rfl (lv_at hl 0 rfl) ?_
  refine gf_0_2 F hW h.1 q_96 dJx4a65c_remove_915e3_2 ?_
  replace h := h.2
  refine cI (runS (n := 2) (As := [.int v1, .int (mI u 2 v0)]) (rest := []) F hW (c_J15_checkIndex_7cf53 F.2.2.2 G v1 (mI u 2 v0) u _ h) q_219 q_220 q_221 q_222 (by decide +kernel) ⟨Nat.le_of_ble_eq_true rfl, Nat.le_of_ble_eq_true rfl⟩ dJx4a65c_remove_915e3_5 rfl hl.1 (Nat.le_of_ble_eq_true rfl) ⟨Nat.zero_le _, Nat.zero_le _⟩) hW (fun r2 u1 h9 H locs hW => ?_)
  replace h := h9
  clear h9
  refine lv_pop hx hb dJx4a65c_remove_915e3_8 rfl ?_
  refine lv_aload_n hx hb dJx4a65c_remove_915e3_9 rfl (lv_at hl 0 rfl) ?_
  refine gf_0_1 F hW h.1 q_32 dJx4a65c_remove_915e3_10 ?_
  replace h := h.2
  obtain ⟨r3, er⟩ : ∃ z, z = mR u1 1 v0 := ⟨_, rfl⟩
  rw [← er]
  replace h := h r3 er
  clear er
  refine rStn (lv' := [(2, va_rf r3), (0, .ref v0), (1, .int v1)]) F dJx4a65c_remove_915e3_13 rfl hl (by decide) rfl (fun ls hl9 => ?_)
  replace hl := hl9
  clear hl9
  refine rLdn F dJx4a65c_remove_915e3_14 rfl (lv_at hl 0 rfl) ?_
  refine lv_iload_n hx hb dJx4a65c_remove_915e3_15 rfl (lv_at hl 2 rfl) ?_
  obtain ⟨a4, ea, h⟩ := h
  subst ea
  refine rQald_13 F hW h.1 h.2.1 dJx4a65c_remove_915e3_16 ?_
  replace h := h.2.2
  obtain ⟨r5, er⟩ : ∃ z, z = mB u1 a4 v1.toNatClampNeg := ⟨_, rfl⟩
  rw [← er]
  replace h := h r5 er
  clear er
  refine rStn (lv' := [(3, va_rf r5), (2, .ref a4), (0, .ref v0), (1, .int v1)]) F dJx4a65c_remove_915e3_17 rfl hl (by decide) rfl (fun ls hl9 => ?_)
  replace hl := hl9
  clear hl9
  refine lv_aload_n hx hb dJx4a65c_remove_915e3_18 rfl (lv_at hl 2 rfl) ?_
  refine lv_aload_n hx hb dJx4a65c_remove_915e3_19 rfl (lv_at hl 1 rfl) ?_
  refine lv_iload_n hx hb dJx4a65c_remove_915e3_20 rfl (lv_at hl 3 rfl) ?_
  obtain ⟨hob, h⟩ := h
  refine cV (runV (n := 2) (As := [.ref a4, .int v1]) (rest := []) F hW (c_Jx4a65c_fastRemove_b59b0 F.2.2.2 G v0 a4 v1 u1 _ h) hob (ci := 0) rfl q_242 q_243 q_244 q_16 q_245 rfl (by decide +kernel) ⟨Nat.le_of_ble_eq_true rfl, Nat.le_of_ble_eq_true rfl⟩ dJx4a65c_remove_915e3_21 rfl hl.1 (Nat.le_of_ble_eq_true rfl) ⟨Nat.zero_le _, Nat.zero_le _⟩) hW (fun u6 h9 H locs hW => ?_)
  replace h := h9
  clear h9
  refine rLdn F dJx4a65c_remove_915e3_24 rfl (lv_at hl 0 rfl) ?_
  exact retQ (v := r5) F hr (Or.inl ⟨_, rfl⟩) hW h dJx4a65c_remove_915e3_25
set_option maxHeartbeats 4000000 in
set_option maxRecDepth 100000 in
theorem c_Jx4a65c_size_8abf5 {l : Launch} (hst : l.stackTraces = false) (G : Ctx) (v0 : Nat) (u : Mem) (K : Int32 → Mem → Prop) (h : w_Jx4a65c_size_8abf5 G v0 u K) : CtI l yJx4a65c_size_8abf5 (.code yJx4a65c_size_8abf5 cJx4a65c_size_8abf5 1 (some .int)) 0 0 0 0 G [.ref v0] u K := by
  refine entM (by first | decide | decide +kernel) hst (by first | decide | exact Nat.le_of_ble_eq_true rfl) (fun p e s m below meth c ls F hr hnm hW hl => ?_)
  have F : Fx p l s m ([.ref v0]).toArray meth c cJx4a65c_size_8abf5 1 RJx4a65c G := F
  have hnm : meth.name = "size" := hnm
  have hl : lv_has ls 1 [(0, .ref v0)] := hl
  have hx := F.1.1
  have hb := F.1.2.1
  unfold w_Jx4a65c_size_8abf5 at h
  refine lv_aload_n hx hb dJx4a65c_size_8abf5_0 rfl (lv_at hl 0 rfl) ?_
  refine gf_0_2 F hW h.1 q_96 dJx4a65c_size_8abf5_1 ?_
  replace h := h.2
  exact retI F hr hW h dJx4a65c_size_8abf5_4
end WK0
