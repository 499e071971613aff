section WK3
set_option maxHeartbeats 4000000 in
set_option maxRecDepth 100000 in
theorem c_X6_in {l : Launch} (hst : l.stackTraces = false) (G : Ctx) (v0 : Int32) (v1 : Int32) (v2 : Int32) (u : Mem) (K : Int32 → Mem → Prop) (h : w_X6_in G v0 v1 v2 u K) : CtI l yX6_in (.code yX6_in cX6_in 3 (some .boolean)) 0 0 0 0 G [.int v0, .int v1, .int v2] u K := by
  refine entM (by first | decide | decide +kernel) hst (by first | decide | exact Nat.le_of_ble_eq_true rfl) (fun p e s m below meth c ls F hr hnm hW hl => ?_)
  have F : Fx p l s m ([.int v0, .int v1, .int v2]).toArray meth c cX6_in 3 RX6 G := F
  have hnm : meth.name = "in" := hnm
  have hl : lv_has ls 3 [(0, .int v0), (1, .int v1), (2, .int v2)] := hl
  have hx := F.1.1
  have hb := F.1.2.1
  unfold w_X6_in at h
  refine lv_iload_n hx hb dX6_in_0 rfl (lv_at hl 0 rfl) ?_
  refine lv_iload_n hx hb dX6_in_1 rfl (lv_at hl 1 rfl) ?_
  refine lv_icmp_lt (tgt := 14) hx hb dX6_in_2 (by decide) (fun hc1 => ?_) (fun hc1 => ?_)
  · have h := h.1 hc1
    refine lv_iconst (v := (0 : Int32)) hx hb dX6_in_14 (by decide) ?_
    exact retZ F hr hW h.1 h.2 dX6_in_15
  · have h := h.2 hc1
    refine lv_iload_n hx hb dX6_in_5 rfl (lv_at hl 0 rfl) ?_
    refine lv_iload_n hx hb dX6_in_6 rfl (lv_at hl 2 rfl) ?_
    refine lv_icmp_gt (tgt := 14) hx hb dX6_in_7 (by decide) (fun hc2 => ?_) (fun hc2 => ?_)
    · have h := h.1 hc2
      refine lv_iconst (v := (0 : Int32)) hx hb dX6_in_14 (by decide) ?_
      exact retZ F hr hW h.1 h.2 dX6_in_15
    · have h := h.2 hc2
      refine lv_iconst (v := (1 : Int32)) hx hb dX6_in_10 (by decide) ?_
      refine lv_goto (tgt := 15) hx hb dX6_in_11 (by decide) ?_
      exact retZ F hr hW h.1 h.2 dX6_in_15
set_option maxHeartbeats 4000000 in
set_option maxRecDepth 100000 in
theorem c_X6_isStreet {l : Launch} (hst : l.stackTraces = false) (G : Ctx) (v0 : Int32) (u : Mem) (K : Int32 → Mem → Prop) (h : w_X6_isStreet G v0 u K) : CtI l yX6_isStreet (.code yX6_isStreet cX6_isStreet 1 (some .boolean)) 1 22 0 0 G [.int v0] u K := by
  refine entM (by first | decide | decide +kernel) hst (by first | decide | exact Nat.le_of_ble_eq_true rfl) (fun p e s m below meth c ls F hr hnm hW hl => ?_)
  have F : Fx p l s m ([.int v0]).toArray meth c cX6_isStreet 1 RX6 G := F
  have hnm : meth.name = "isStreet" := hnm
  have hl : lv_has ls 1 [(0, .int v0)] := hl
  have hx := F.1.1
  have hb := F.1.2.1
  unfold w_X6_isStreet at h
  refine lv_iload_n hx hb dX6_isStreet_0 rfl (lv_at hl 0 rfl) ?_
  refine lv_iconst (v := (0 : Int32)) hx hb dX6_isStreet_1 (by decide) ?_
  refine lv_bipush (v := (7 : Int32)) hx hb dX6_isStreet_2 (by decide) ?_
  refine cI (runS (n := 3) (As := [.int v0, .int (0 : Int32), .int (7 : Int32)]) (rest := []) F hW (c_X6_in F.2.2.2 G v0 (0 : Int32) (7 : Int32) u _ h) q_123 q_124 q_5 q_125 (by decide +kernel) ⟨Nat.le_of_ble_eq_true rfl, Nat.le_of_ble_eq_true rfl⟩ dX6_isStreet_4 rfl hl.1 (Nat.le_of_ble_eq_true rfl) ⟨Nat.zero_le _, Nat.zero_le _⟩) hW (fun r2 u1 h9 H locs hW => ?_)
  replace h := h9
  clear h9
  exact retZ F hr hW h.1 h.2 dX6_isStreet_7
set_option maxHeartbeats 4000000 in
set_option maxRecDepth 100000 in
theorem c_X6_fails {l : Launch} (hst : l.stackTraces = false) (G : Ctx) (v0 : Nat) (v1 : Int32) (u : Mem) (K : Int32 → Mem → Prop) (h : w_X6_fails G v0 v1 u K) : CtI l yX6_fails (.code yX6_fails cX6_fails 2 (some .int)) 0 0 0 0 G [.ref v0, .int v1] u K := by
  refine entM (by first | decide | decide +kernel) hst (by first | decide | exact Nat.le_of_ble_eq_true rfl) (fun p e s m below meth c ls F hr hnm hW hl => ?_)
  have F : Fx p l s m ([.ref v0, .int v1]).toArray meth c cX6_fails 2 RX6 G := F
  have hnm : meth.name = "fails" := hnm
  have hl : lv_has ls 2 [(0, .ref v0), (1, .int v1)] := hl
  have hx := F.1.1
  have hb := F.1.2.1
  unfold w_X6_fails at h
  refine lv_aload_n hx hb dX6_fails_0 rfl (lv_at hl 0 rfl) ?_
  refine lv_iload_n hx hb dX6_fails_1 rfl (lv_at hl 1 rfl) ?_
  refine pf_7_0 F hW (x := v1) h.1 q_118 dX6_fails_2 (fun H locs hW => ?_)
  replace h := h.2
  obtain ⟨u1, eu⟩ : ∃ z, z = setI u 224 v0 v1 := ⟨_, rfl⟩
  rw [← eu] at hW
  replace h := h u1 eu
  clear eu
  refine lv_iconst (v := (0 : Int32)) hx hb dX6_fails_5 (by decide) ?_
  exact retI F hr hW h dX6_fails_6
set_option maxHeartbeats 4000000 in
set_option maxRecDepth 100000 in
theorem t_X6_ask_19 {p : Program} {l : Launch} {e : Env} {s : State} {m : MethodId} {below : List Frame} {meth : Method} {c : Code} {G : Ctx} (v0 : Nat) (v1 : Int32) (v2 : Int32) (F : Fx p l s m ([.ref v0, .int v1, .int v2]).toArray meth c cX6_ask 3 RX6 G) (hr : meth.sig.returnType = (some .int)) (K : Int32 → Mem → Prop) : ∀ (u : Mem) (H : Heap) (locs : List Loc) (ls : Array Slot), w_X6_ask_19 G v0 v1 v2 K u → Wd G u s H locs → lv_has ls 3 [(0, .ref v0), (1, .int v1), (2, .int v2)] → W p l e { frames := 2, cells := 0, slots := 0, locals := 42 } s m ([.ref v0, .int v1, .int v2]).toArray below meth c H locs 0 0 (MQ below (va_Qi K (fun u' t => Wp G u' t.heap) (Ab G)) ([.ref v0, .int v1, .int v2]).toArray s 0 0 (Ab G)) (F0 m 19 ls []) := by
  have hx := F.1.1
  have hb := F.1.2.1
  intro u H locs ls h hW hl
  unfold w_X6_ask_19 at h
  refine lv_aload_n hx hb dX6_ask_19 rfl (lv_at hl 0 rfl) ?_
  refine lv_iconst (v := (1 : Int32)) hx hb dX6_ask_20 (by decide) ?_
  obtain ⟨hob, h⟩ := h
  refine cI (runV (n := 1) (As := [.int (1 : Int32)]) (rest := []) F hW (c_X6_fails F.2.2.2 G v0 (1 : Int32) u _ h) hob (ci := 7) rfl q_126 q_127 q_128 q_5 q_129 rfl (by decide +kernel) ⟨Nat.le_of_ble_eq_true rfl, Nat.le_of_ble_eq_true rfl⟩ dX6_ask_21 rfl hl.1 (Nat.le_of_ble_eq_true rfl) ⟨Nat.zero_le _, Nat.zero_le _⟩) hW (fun r29 u28 h9 H locs hW => ?_)
  replace h := h9
  clear h9
  exact retI F hr hW h dX6_ask_24
set_option maxHeartbeats 4000000 in
set_option maxRecDepth 100000 in
theorem c_X6_ask {l : Launch} (hst : l.stackTraces = false) (G : Ctx) (v0 : Nat) (v1 : Int32) (v2 : Int32) (u : Mem) (K : Int32 → Mem → Prop) (h : w_X6_ask G v0 v1 v2 u K) : CtI l yX6_ask (.code yX6_ask cX6_ask 3 (some .int)) 2 42 0 0 G [.ref v0, .int v1, .int v2] u K := by
  refine entM (by first | decide | decide +kernel) hst (by first | decide | exact Nat.le_of_ble_eq_true rfl) (fun p e s m below meth c ls F hr hnm hW hl => ?_)
  have F : Fx p l s m ([.ref v0, .int v1, .int v2]).toArray meth c cX6_ask 3 RX6 G := F
  have hnm : meth.name = "ask" := hnm
  have hl : lv_has ls 3 [(0, .ref v0), (1, .int v1), (2, .int v2)] := hl
  have hx := F.1.1
  have hb := F.1.2.1
  unfold w_X6_ask at h
  refine lv_aload_n hx hb dX6_ask_0 rfl (lv_at hl 0 rfl) ?_
  refine lv_iconst (v := (0 : Int32)) hx hb dX6_ask_1 (by decide) ?_
  refine pf_7_0 F hW (x := (0 : Int32)) h.1 q_118 dX6_ask_2 (fun H locs hW => ?_)
  replace h := h.2
  obtain ⟨u1, eu⟩ : ∃ z, z = setI u 224 v0 (0 : Int32) := ⟨_, rfl⟩
  rw [← eu] at hW
  replace h := h u1 eu
  clear eu
  refine lv_iload_n hx hb dX6_ask_5 rfl (lv_at hl 1 rfl) ?_
  refine cI (runS (n := 1) (As := [.int v1]) (rest := []) F hW (c_X6_isStreet F.2.2.2 G v1 u1 _ h) q_120 q_121 q_5 q_122 (by decide +kernel) ⟨Nat.le_of_ble_eq_true rfl, Nat.le_of_ble_eq_true rfl⟩ dX6_ask_6 rfl hl.1 (Nat.le_of_ble_eq_true rfl) ⟨Nat.zero_le _, Nat.zero_le _⟩) hW (fun r3 u2 h9 H locs hW => ?_)
  replace h := h9
  clear h9
  refine lv_if_eq (tgt := 19) hx hb dX6_ask_9 (by decide) (fun hc4 => ?_) (fun hc4 => ?_)
  · have h := h.1 hc4
    exact t_X6_ask_19 v0 v1 v2 F hr K u2 _ _ _ h hW (lv_sub hl [0, 1, 2] rfl)
  · have h := h.2 hc4
    refine lv_iload_n hx hb dX6_ask_12 rfl (lv_at hl 2 rfl) ?_
    refine cI (runS (n := 1) (As := [.int v2]) (rest := []) F hW (c_X6_isStreet F.2.2.2 G v2 u2 _ h) q_120 q_121 q_5 q_122 (by decide +kernel) ⟨Nat.le_of_ble_eq_true rfl, Nat.le_of_ble_eq_true rfl⟩ dX6_ask_13 rfl hl.1 (Nat.le_of_ble_eq_true rfl) ⟨Nat.zero_le _, Nat.zero_le _⟩) hW (fun r6 u5 h9 H locs hW => ?_)
    replace h := h9
    clear h9
    refine lv_if_ne (tgt := 25) hx hb dX6_ask_16 (by decide) (fun hc7 => ?_) (fun hc7 => ?_)
    · have h := h.2 hc7
      refine lv_iload_n hx hb dX6_ask_25 rfl (lv_at hl 1 rfl) ?_
      refine lv_iload_n hx hb dX6_ask_26 rfl (lv_at hl 2 rfl) ?_
      refine lv_icmp_ne (tgt := 36) hx hb dX6_ask_27 (by decide) (fun hc8 => ?_) (fun hc8 => ?_)
      · have h := h.2 hc8
        refine lv_aload_n hx hb dX6_ask_36 rfl (lv_at hl 0 rfl) ?_
        refine gf_7_10 F hW h.1 q_273 dX6_ask_37 ?_
        replace h := h.2
        refine lv_bipush (v := (60 : Int32)) hx hb dX6_ask_40 (by decide) ?_
        refine lv_icmp_ne (tgt := 51) hx hb dX6_ask_42 (by decide) (fun hc9 => ?_) (fun hc9 => ?_)
        · have h := h.2 hc9
          refine lv_aload_n hx hb dX6_ask_51 rfl (lv_at hl 0 rfl) ?_
          refine gf_7_11 F hW h.1 q_82 dX6_ask_52 ?_
          replace h := h.2
          obtain ⟨r10, er⟩ : ∃ z, z = mR u5 235 v0 := ⟨_, rfl⟩
          rw [← er]
          replace h := h r10 er
          clear er
          refine lv_aload_n hx hb dX6_ask_55 rfl (lv_at hl 0 rfl) ?_
          refine gf_7_10 F hW h.1 q_273 dX6_ask_56 ?_
          replace h := h.2
          refine lv_iload_n hx hb dX6_ask_59 rfl (lv_at hl 1 rfl) ?_
          obtain ⟨a11, ea, h⟩ := h
          subst ea
          refine rIast F hW h.1 h.2.1 dX6_ask_60 (fun H locs hW => ?_)
          replace h := h.2.2
          obtain ⟨u12, eu⟩ : ∃ z, z = setA u5 a11 ((mI u5 234 v0).toNatClampNeg) v1 := ⟨_, rfl⟩
          rw [← eu] at hW
          replace h := h u12 eu
          clear eu
          refine lv_aload_n hx hb dX6_ask_61 rfl (lv_at hl 0 rfl) ?_
          refine gf_7_12 F hW h.1 q_83 dX6_ask_62 ?_
          replace h := h.2
          obtain ⟨r13, er⟩ : ∃ z, z = mR u12 236 v0 := ⟨_, rfl⟩
          rw [← er]
          replace h := h r13 er
          clear er
          refine lv_aload_n hx hb dX6_ask_65 rfl (lv_at hl 0 rfl) ?_
          refine gf_7_10 F hW h.1 q_273 dX6_ask_66 ?_
          replace h := h.2
          refine lv_iload_n hx hb dX6_ask_69 rfl (lv_at hl 2 rfl) ?_
          obtain ⟨a14, ea, h⟩ := h
          subst ea
          refine rIast F hW h.1 h.2.1 dX6_ask_70 (fun H locs hW => ?_)
          replace h := h.2.2
          obtain ⟨u15, eu⟩ : ∃ z, z = setA u12 a14 ((mI u12 234 v0).toNatClampNeg) v2 := ⟨_, rfl⟩
          rw [← eu] at hW
          replace h := h u15 eu
          clear eu
          refine lv_aload_n hx hb dX6_ask_71 rfl (lv_at hl 0 rfl) ?_
          refine gf_7_14 F hW h.1 q_85 dX6_ask_72 ?_
          replace h := h.2
          obtain ⟨r16, er⟩ : ∃ z, z = mR u15 238 v0 := ⟨_, rfl⟩
          rw [← er]
          replace h := h r16 er
          clear er
          refine lv_aload_n hx hb dX6_ask_75 rfl (lv_at hl 0 rfl) ?_
          refine gf_7_10 F hW h.1 q_273 dX6_ask_76 ?_
          replace h := h.2
          refine lv_iconst (v := (-1 : Int32)) hx hb dX6_ask_79 (by decide) ?_
          obtain ⟨a17, ea, h⟩ := h
          subst ea
          refine rIast F hW h.1 h.2.1 dX6_ask_80 (fun H locs hW => ?_)
          replace h := h.2.2
          obtain ⟨u18, eu⟩ : ∃ z, z = setA u15 a17 ((mI u15 234 v0).toNatClampNeg) (-1 : Int32) := ⟨_, rfl⟩
          rw [← eu] at hW
          replace h := h u18 eu
          clear eu
          refine lv_aload_n hx hb dX6_ask_81 rfl (lv_at hl 0 rfl) ?_
          refine lv_dup hx hb dX6_ask_82 rfl ?_
          refine gf_7_10 F hW h.1 q_273 dX6_ask_83 ?_
          replace h := h.2
          refine lv_iconst (v := (1 : Int32)) hx hb dX6_ask_86 (by decide) ?_
          refine lv_iadd hx hb dX6_ask_87 ?_
          refine pf_7_10 F hW (x := ((mI u18 234 v0) + (1 : Int32))) h.1 q_273 dX6_ask_88 (fun H locs hW => ?_)
          replace h := h.2
          obtain ⟨u19, eu⟩ : ∃ z, z = setI u18 234 v0 ((mI u18 234 v0) + (1 : Int32)) := ⟨_, rfl⟩
          rw [← eu] at hW
          replace h := h u19 eu
          clear eu
          refine lv_aload_n hx hb dX6_ask_91 rfl (lv_at hl 0 rfl) ?_
          refine gf_7_10 F hW h.1 q_273 dX6_ask_92 ?_
          replace h := h.2
          refine lv_iconst (v := (1 : Int32)) hx hb dX6_ask_95 (by decide) ?_
          refine lv_isub hx hb dX6_ask_96 ?_
          exact retI F hr hW h dX6_ask_97
        · have h := h.1 hc9
          refine lv_aload_n hx hb dX6_ask_45 rfl (lv_at hl 0 rfl) ?_
          refine lv_iconst (v := (3 : Int32)) hx hb dX6_ask_46 (by decide) ?_
          obtain ⟨hob, h⟩ := h
          refine cI (runV (n := 1) (As := [.int (3 : Int32)]) (rest := []) F hW (c_X6_fails F.2.2.2 G v0 (3 : Int32) u5 _ h) hob (ci := 7) rfl q_126 q_127 q_128 q_5 q_129 rfl (by decide +kernel) ⟨Nat.le_of_ble_eq_true rfl, Nat.le_of_ble_eq_true rfl⟩ dX6_ask_47 rfl hl.1 (Nat.le_of_ble_eq_true rfl) ⟨Nat.zero_le _, Nat.zero_le _⟩) hW (fun r21 u20 h9 H locs hW => ?_)
          replace h := h9
          clear h9
          exact retI F hr hW h dX6_ask_50
      · have h := h.1 hc8
        refine lv_aload_n hx hb dX6_ask_30 rfl (lv_at hl 0 rfl) ?_
        refine lv_iconst (v := (2 : Int32)) hx hb dX6_ask_31 (by decide) ?_
        obtain ⟨hob, h⟩ := h
        refine cI (runV (n := 1) (As := [.int (2 : Int32)]) (rest := []) F hW (c_X6_fails F.2.2.2 G v0 (2 : Int32) u5 _ h) hob (ci := 7) rfl q_126 q_127 q_128 q_5 q_129 rfl (by decide +kernel) ⟨Nat.le_of_ble_eq_true rfl, Nat.le_of_ble_eq_true rfl⟩ dX6_ask_32 rfl hl.1 (Nat.le_of_ble_eq_true rfl) ⟨Nat.zero_le _, Nat.zero_le _⟩) hW (fun r23 u22 h9 H locs hW => ?_)
        replace h := h9
        clear h9
        exact retI F hr hW h dX6_ask_35
    · have h := h.1 hc7
      exact t_X6_ask_19 v0 v1 v2 F hr K u5 _ _ _ h hW (lv_sub hl [0, 1, 2] rfl)
set_option maxHeartbeats 4000000 in
set_option maxRecDepth 100000 in
theorem c_X6_isWalk {l : Launch} (hst : l.stackTraces = false) (G : Ctx) (v0 : Nat) (v1 : Int32) (u : Mem) (K : Int32 → Mem → Prop) (h : w_X6_isWalk G v0 v1 u K) : CtI l yX6_isWalk (.code yX6_isWalk cX6_isWalk 2 (some .boolean)) 1 22 0 0 G [.ref v0, .int v1] u K := by
  refine entM (by first | decide | decide +kernel) hst (by first | decide | exact Nat.le_of_ble_eq_true rfl) (fun p e s m below meth c ls F hr hnm hW hl => ?_)
  have F : Fx p l s m ([.ref v0, .int v1]).toArray meth c cX6_isWalk 2 RX6 G := F
  have hnm : meth.name = "isWalk" := hnm
  have hl : lv_has ls 2 [(0, .ref v0), (1, .int v1)] := hl
  have hx := F.1.1
  have hb := F.1.2.1
  unfold w_X6_isWalk at h
  refine lv_iload_n hx hb dX6_isWalk_0 rfl (lv_at hl 1 rfl) ?_
  refine lv_iconst (v := (0 : Int32)) hx hb dX6_isWalk_1 (by decide) ?_
  refine lv_aload_n hx hb dX6_isWalk_2 rfl (lv_at hl 0 rfl) ?_
  refine gf_7_10 F hW h.1 q_273 dX6_isWalk_3 ?_
  replace h := h.2
  refine lv_iconst (v := (1 : Int32)) hx hb dX6_isWalk_6 (by decide) ?_
  refine lv_isub hx hb dX6_isWalk_7 ?_
  refine cI (runS (n := 3) (As := [.int v1, .int (0 : Int32), .int ((mI u 234 v0) - (1 : Int32))]) (rest := []) F hW (c_X6_in F.2.2.2 G v1 (0 : Int32) ((mI u 234 v0) - (1 : Int32)) u _ h) q_123 q_124 q_5 q_125 (by decide +kernel) ⟨Nat.le_of_ble_eq_true rfl, Nat.le_of_ble_eq_true rfl⟩ dX6_isWalk_8 rfl hl.1 (Nat.le_of_ble_eq_true rfl) ⟨Nat.zero_le _, Nat.zero_le _⟩) hW (fun r2 u1 h9 H locs hW => ?_)
  replace h := h9
  clear h9
  exact retZ F hr hW h.1 h.2 dX6_isWalk_11
set_option maxHeartbeats 4000000 in
set_option maxRecDepth 100000 in
theorem t_X6_complain_38 {p : Program} {l : Launch} {e : Env} {s : State} {m : MethodId} {below : List Frame} {meth : Method} {c : Code} {G : Ctx} (v0 : Nat) (v1 : Int32) (v2 : Int32) (F : Fx p l s m ([.ref v0, .int v1, .int v2]).toArray meth c cX6_complain 5 RX6 G) (hr : meth.sig.returnType = (some .int)) (K : Int32 → Mem → Prop) : ∀ (u : Mem) (H : Heap) (locs : List Loc) (ls : Array Slot), w_X6_complain_38 G v0 v1 v2 K u → Wd G u s H locs → lv_has ls 5 [(0, .ref v0), (1, .int v1), (2, .int v2)] → W p l e { frames := 2, cells := 0, slots := 0, locals := 43 } s m ([.ref v0, .int v1, .int v2]).toArray below meth c H locs 0 0 (MQ below (va_Qi K (fun u' t => Wp G u' t.heap) (Ab G)) ([.ref v0, .int v1, .int v2]).toArray s 0 0 (Ab G)) (F0 m 38 ls []) := by
  have hx := F.1.1
  have hb := F.1.2.1
  intro u H locs ls h hW hl
  unfold w_X6_complain_38 at h
  refine lv_aload_n hx hb dX6_complain_38 rfl (lv_at hl 0 rfl) ?_
  refine lv_iconst (v := (2 : Int32)) hx hb dX6_complain_39 (by decide) ?_
  obtain ⟨hob, h⟩ := h
  refine cI (runV (n := 1) (As := [.int (2 : Int32)]) (rest := []) F hW (c_X6_fails F.2.2.2 G v0 (2 : Int32) u _ h) hob (ci := 7) rfl q_126 q_127 q_128 q_5 q_129 rfl (by decide +kernel) ⟨Nat.le_of_ble_eq_true rfl, Nat.le_of_ble_eq_true rfl⟩ dX6_complain_40 rfl hl.1 (Nat.le_of_ble_eq_true rfl) ⟨Nat.zero_le _, Nat.zero_le _⟩) hW (fun r43 u42 h9 H locs hW => ?_)
  replace h := h9
  clear h9
  exact retI F hr hW h dX6_complain_43
set_option maxHeartbeats 4000000 in
set_option maxRecDepth 100000 in
theorem t_X6_complain_98 {p : Program} {l : Launch} {e : Env} {s : State} {m : MethodId} {below : List Frame} {meth : Method} {c : Code} {G : Ctx} (v0 : Nat) (v1 : Int32) (v2 : Int32) (F : Fx p l s m ([.ref v0, .int v1, .int v2]).toArray meth c cX6_complain 5 RX6 G) (hr : meth.sig.returnType = (some .int)) (K : Int32 → Mem → Prop) : ∀ (v3 : Int32) (s0 : Int32) (s1 : Int32) (s2 : Option Nat) (u : Mem) (H : Heap) (locs : List Loc) (ls : Array Slot), w_X6_complain_98 G v0 v1 v2 K v3 s0 s1 s2 u → Wd G u s H locs → lv_has ls 5 [(0, .ref v0), (1, .int v1), (2, .int v2), (3, .int v3)] → W p l e { frames := 2, cells := 0, slots := 0, locals := 43 } s m ([.ref v0, .int v1, .int v2]).toArray below meth c H locs 0 0 (MQ below (va_Qi K (fun u' t => Wp G u' t.heap) (Ab G)) ([.ref v0, .int v1, .int v2]).toArray s 0 0 (Ab G)) (F0 m 98 ls [.int s0, .int s1, va_rf s2]) := by
  have hx := F.1.1
  have hb := F.1.2.1
  intro v3 s0 s1 s2 u H locs ls h hW hl
  unfold w_X6_complain_98 at h
  obtain ⟨a44, ea, h⟩ := h
  subst ea
  refine rIast F hW h.1 h.2.1 dX6_complain_98 (fun H locs hW => ?_)
  replace h := h.2.2
  obtain ⟨u45, eu⟩ : ∃ z, z = setA u a44 (s1.toNatClampNeg) s0 := ⟨_, rfl⟩
  rw [← eu] at hW
  replace h := h u45 eu
  clear eu
  refine lv_aload_n hx hb dX6_complain_99 rfl (lv_at hl 0 rfl) ?_
  refine gf_7_16 F hW h.1 q_87 dX6_complain_100 ?_
  replace h := h.2
  obtain ⟨r46, er⟩ : ∃ z, z = mR u45 240 v0 := ⟨_, rfl⟩
  rw [← er]
  replace h := h r46 er
  clear er
  refine lv_iload_n hx hb dX6_complain_103 rfl (lv_at hl 1 rfl) ?_
  refine lv_iconst (v := (1 : Int32)) hx hb dX6_complain_104 (by decide) ?_
  obtain ⟨a47, ea, h⟩ := h
  subst ea
  refine rZast F hW h.1 h.2.1 h.2.2.1 dX6_complain_105 (fun H locs hW => ?_)
  replace h := h.2.2.2
  obtain ⟨u48, eu⟩ : ∃ z, z = setA u45 a47 (v1.toNatClampNeg) (1 : Int32) := ⟨_, rfl⟩
  rw [← eu] at hW
  replace h := h u48 eu
  clear eu
  refine lv_aload_n hx hb dX6_complain_106 rfl (lv_at hl 0 rfl) ?_
  refine gf_7_8 F hW h.1 q_80 dX6_complain_107 ?_
  replace h := h.2
  obtain ⟨r49, er⟩ : ∃ z, z = mR u48 232 v0 := ⟨_, rfl⟩
  rw [← er]
  replace h := h r49 er
  clear er
  refine lv_iload_n hx hb dX6_complain_110 rfl (lv_at hl 3 rfl) ?_
  obtain ⟨a50, ea, h⟩ := h
  subst ea
  refine rIald F hW h.1 h.2.1 dX6_complain_111 ?_
  replace h := h.2.2
  exact retI F hr hW h dX6_complain_112
set_option maxHeartbeats 4000000 in
set_option maxRecDepth 100000 in
theorem t_X6_complain_67 {p : Program} {l : Launch} {e : Env} {s : State} {m : MethodId} {below : List Frame} {meth : Method} {c : Code} {G : Ctx} (v0 : Nat) (v1 : Int32) (v2 : Int32) (F : Fx p l s m ([.ref v0, .int v1, .int v2]).toArray meth c cX6_complain 5 RX6 G) (hr : meth.sig.returnType = (some .int)) (K : Int32 → Mem → Prop) : ∀ (v3 : Int32) (s0 : Int32) (s1 : Int32) (u : Mem) (H : Heap) (locs : List Loc) (ls : Array Slot), w_X6_complain_67 G v0 v1 v2 K v3 s0 s1 u → Wd G u s H locs → lv_has ls 5 [(0, .ref v0), (1, .int v1), (2, .int v2), (3, .int v3)] → W p l e { frames := 2, cells := 0, slots := 0, locals := 43 } s m ([.ref v0, .int v1, .int v2]).toArray below meth c H locs 0 0 (MQ below (va_Qi K (fun u' t => Wp G u' t.heap) (Ab G)) ([.ref v0, .int v1, .int v2]).toArray s 0 0 (Ab G)) (F0 m 67 ls [.int s0, .int s1]) := by
  have hx := F.1.1
  have hb := F.1.2.1
  intro v3 s0 s1 u H locs ls h hW hl
  unfold w_X6_complain_67 at h
  refine lv_iadd hx hb dX6_complain_67 ?_
  refine lv_istore (lv' := [(4, .int (s1 + s0)), (0, .ref v0), (1, .int v1), (2, .int v2), (3, .int v3)]) hx hb dX6_complain_68 hl (by decide) rfl (fun ls hl9 => ?_)
  replace hl := hl9
  clear hl9
  refine lv_aload_n hx hb dX6_complain_70 rfl (lv_at hl 1 rfl) ?_
  refine gf_7_8 F hW h.1 q_80 dX6_complain_71 ?_
  replace h := h.2
  obtain ⟨r51, er⟩ : ∃ z, z = mR u 232 v0 := ⟨_, rfl⟩
  rw [← er]
  replace h := h r51 er
  clear er
  refine lv_iload_n hx hb dX6_complain_74 rfl (lv_at hl 4 rfl) ?_
  refine lv_iload hx hb dX6_complain_75 (lv_at hl 0 rfl) ?_
  refine lv_if_ge (tgt := 84) hx hb dX6_complain_77 (by decide) (fun hc52 => ?_) (fun hc52 => ?_)
  · have h := h.1 hc52
    refine lv_iload hx hb dX6_complain_84 (lv_at hl 0 rfl) ?_
    refine lv_bipush (v := (100 : Int32)) hx hb dX6_complain_86 (by decide) ?_
    refine lv_icmp_le (tgt := 96) hx hb dX6_complain_88 (by decide) (fun hc53 => ?_) (fun hc53 => ?_)
    · have h := h.1 hc53
      refine lv_iload hx hb dX6_complain_96 (lv_at hl 0 rfl) ?_
      exact t_X6_complain_98 v0 v1 v2 F hr K v3 (s1 + s0) v3 r51 u _ _ _ h hW (lv_sub hl [1, 2, 3, 4] rfl)
    · have h := h.2 hc53
      refine lv_bipush (v := (100 : Int32)) hx hb dX6_complain_91 (by decide) ?_
      refine lv_goto (tgt := 98) hx hb dX6_complain_93 (by decide) ?_
      exact t_X6_complain_98 v0 v1 v2 F hr K v3 (100 : Int32) v3 r51 u _ _ _ h hW (lv_sub hl [1, 2, 3, 4] rfl)
  · have h := h.2 hc52
    refine lv_iconst (v := (0 : Int32)) hx hb dX6_complain_80 (by decide) ?_
    refine lv_goto (tgt := 98) hx hb dX6_complain_81 (by decide) ?_
    exact t_X6_complain_98 v0 v1 v2 F hr K v3 (0 : Int32) v3 r51 u _ _ _ h hW (lv_sub hl [1, 2, 3, 4] rfl)
set_option maxHeartbeats 4000000 in
set_option maxRecDepth 100000 in
theorem c_X6_complain {l : Launch} (hst : l.stackTraces = false) (G : Ctx) (v0 : Nat) (v1 : Int32) (v2 : Int32) (u : Mem) (K : Int32 → Mem → Prop) (h : w_X6_complain G v0 v1 v2 u K) : CtI l yX6_complain (.code yX6_complain cX6_complain 5 (some .int)) 2 43 0 0 G [.ref v0, .int v1, .int v2] u K := by
  refine entM (by first | decide | decide +kernel) hst (by first | decide | exact Nat.le_of_ble_eq_true rfl) (fun p e s m below meth c ls F hr hnm hW hl => ?_)
  have F : Fx p l s m ([.ref v0, .int v1, .int v2]).toArray meth c cX6_complain 5 RX6 G := F
  have hnm : meth.name = "complain" := hnm
  have hl : lv_has ls 5 [(0, .ref v0), (1, .int v1), (2, .int v2)] := hl
  have hx := F.1.1
  have hb := F.1.2.1
  unfold w_X6_complain at h
  refine lv_aload_n hx hb dX6_complain_0 rfl (lv_at hl 0 rfl) ?_
  refine lv_iconst (v := (0 : Int32)) hx hb dX6_complain_1 (by decide) ?_
  refine pf_7_0 F hW (x := (0 : Int32)) h.1 q_118 dX6_complain_2 (fun H locs hW => ?_)
  replace h := h.2
  obtain ⟨u1, eu⟩ : ∃ z, z = setI u 224 v0 (0 : Int32) := ⟨_, rfl⟩
  rw [← eu] at hW
  replace h := h u1 eu
  clear eu
  refine lv_aload_n hx hb dX6_complain_5 rfl (lv_at hl 0 rfl) ?_
  refine lv_iload_n hx hb dX6_complain_6 rfl (lv_at hl 1 rfl) ?_
  obtain ⟨hob, h⟩ := h
  refine cI (runV (n := 1) (As := [.int v1]) (rest := []) F hW (c_X6_isWalk F.2.2.2 G v0 v1 u1 _ h) hob (ci := 7) rfl q_437 q_438 q_439 q_5 q_440 rfl (by decide +kernel) ⟨Nat.le_of_ble_eq_true rfl, Nat.le_of_ble_eq_true rfl⟩ dX6_complain_7 rfl hl.1 (Nat.le_of_ble_eq_true rfl) ⟨Nat.zero_le _, Nat.zero_le _⟩) hW (fun r3 u2 h9 H locs hW => ?_)
  replace h := h9
  clear h9
  refine lv_if_ne (tgt := 19) hx hb dX6_complain_10 (by decide) (fun hc4 => ?_) (fun hc4 => ?_)
  · have h := h.2 hc4
    refine lv_aload_n hx hb dX6_complain_19 rfl (lv_at hl 0 rfl) ?_
    refine gf_7_13 F hW h.1 q_84 dX6_complain_20 ?_
    replace h := h.2
    obtain ⟨r5, er⟩ : ∃ z, z = mR u2 237 v0 := ⟨_, rfl⟩
    rw [← er]
    replace h := h r5 er
    clear er
    refine lv_iload_n hx hb dX6_complain_23 rfl (lv_at hl 1 rfl) ?_
    obtain ⟨a6, ea, h⟩ := h
    subst ea
    refine rIald F hW h.1 h.2.1 dX6_complain_24 ?_
    replace h := h.2.2
    refine lv_iconst (v := (3 : Int32)) hx hb dX6_complain_25 (by decide) ?_
    refine lv_icmp_ne (tgt := 38) hx hb dX6_complain_26 (by decide) (fun hc7 => ?_) (fun hc7 => ?_)
    · have h := h.2 hc7
      exact t_X6_complain_38 v0 v1 v2 F hr K u2 _ _ _ h hW (lv_sub hl [0, 1, 2] rfl)
    · have h := h.1 hc7
      refine lv_aload_n hx hb dX6_complain_29 rfl (lv_at hl 0 rfl) ?_
      refine gf_7_16 F hW h.1 q_87 dX6_complain_30 ?_
      replace h := h.2
      obtain ⟨r8, er⟩ : ∃ z, z = mR u2 240 v0 := ⟨_, rfl⟩
      rw [← er]
      replace h := h r8 er
      clear er
      refine lv_iload_n hx hb dX6_complain_33 rfl (lv_at hl 1 rfl) ?_
      obtain ⟨a9, ea, h⟩ := h
      subst ea
      refine rZald F hW h.1 h.2.1 dX6_complain_34 ?_
      replace h := h.2.2
      refine lv_if_eq (tgt := 44) hx hb dX6_complain_35 (by decide) (fun hc10 => ?_) (fun hc10 => ?_)
      · have h := h.1 hc10
        refine lv_aload_n hx hb dX6_complain_44 rfl (lv_at hl 0 rfl) ?_
        refine gf_7_14 F hW h.1 q_85 dX6_complain_45 ?_
        replace h := h.2
        obtain ⟨r11, er⟩ : ∃ z, z = mR u2 238 v0 := ⟨_, rfl⟩
        rw [← er]
        replace h := h r11 er
        clear er
        refine lv_iload_n hx hb dX6_complain_48 rfl (lv_at hl 1 rfl) ?_
        obtain ⟨a12, ea, h⟩ := h
        subst ea
        refine rIald F hW h.1 h.2.1 dX6_complain_49 ?_
        replace h := h.2.2
        refine lv_istore_n (lv' := [(3, .int (mA u2 a12 v1.toNatClampNeg)), (0, .ref v0), (1, .int v1), (2, .int v2)]) hx hb dX6_complain_50 rfl hl (by decide) rfl (fun ls hl9 => ?_)
        replace hl := hl9
        clear hl9
        refine lv_aload_n hx hb dX6_complain_51 rfl (lv_at hl 1 rfl) ?_
        refine gf_7_8 F hW h.1 q_80 dX6_complain_52 ?_
        replace h := h.2
        obtain ⟨r13, er⟩ : ∃ z, z = mR u2 232 v0 := ⟨_, rfl⟩
        rw [← er]
        replace h := h r13 er
        clear er
        refine lv_iload_n hx hb dX6_complain_55 rfl (lv_at hl 0 rfl) ?_
        obtain ⟨a14, ea, h⟩ := h
        subst ea
        refine rIald F hW h.1 h.2.1 dX6_complain_56 ?_
        replace h := h.2.2
        refine lv_iload_n hx hb dX6_complain_57 rfl (lv_at hl 3 rfl) ?_
        refine lv_if_eq (tgt := 65) hx hb dX6_complain_58 (by decide) (fun hc15 => ?_) (fun hc15 => ?_)
        · have h := h.1 hc15
          refine lv_bipush (v := (-10 : Int32)) hx hb dX6_complain_65 (by decide) ?_
          exact t_X6_complain_67 v0 v1 v2 F hr K (mA u2 a12 v1.toNatClampNeg) (-10 : Int32) (mA u2 a14 (mA u2 a12 v1.toNatClampNeg).toNatClampNeg) u2 _ _ _ h hW (lv_sub hl [1, 2, 3, 0] rfl)
        · have h := h.2 hc15
          refine lv_iconst (v := (5 : Int32)) hx hb dX6_complain_61 (by decide) ?_
          refine lv_goto (tgt := 67) hx hb dX6_complain_62 (by decide) ?_
          exact t_X6_complain_67 v0 v1 v2 F hr K (mA u2 a12 v1.toNatClampNeg) (5 : Int32) (mA u2 a14 (mA u2 a12 v1.toNatClampNeg).toNatClampNeg) u2 _ _ _ h hW (lv_sub hl [1, 2, 3, 0] rfl)
      · have h := h.2 hc10
        exact t_X6_complain_38 v0 v1 v2 F hr K u2 _ _ _ h hW (lv_sub hl [0, 1, 2] rfl)
  · have h := h.1 hc4
    refine lv_aload_n hx hb dX6_complain_13 rfl (lv_at hl 0 rfl) ?_
    refine lv_iconst (v := (1 : Int32)) hx hb dX6_complain_14 (by decide) ?_
    obtain ⟨hob, h⟩ := h
    refine cI (runV (n := 1) (As := [.int (1 : Int32)]) (rest := []) F hW (c_X6_fails F.2.2.2 G v0 (1 : Int32) u2 _ h) hob (ci := 7) rfl q_126 q_127 q_128 q_5 q_129 rfl (by decide +kernel) ⟨Nat.le_of_ble_eq_true rfl, Nat.le_of_ble_eq_true rfl⟩ dX6_complain_15 rfl hl.1 (Nat.le_of_ble_eq_true rfl) ⟨Nat.zero_le _, Nat.zero_le _⟩) hW (fun r17 u16 h9 H locs hW => ?_)
    replace h := h9
    clear h9
    exact retI F hr hW h dX6_complain_18
set_option maxHeartbeats 4000000 in
set_option maxRecDepth 100000 in
theorem c_X6_dark {l : Launch} (hst : l.stackTraces = false) (G : Ctx) (v0 : Nat) (v1 : Int32) (u : Mem) (K : Int32 → Mem → Prop) (h : w_X6_dark G v0 v1 u K) : CtI l yX6_dark (.code yX6_dark cX6_dark 2 (some .int)) 2 43 0 0 G [.ref v0, .int v1] u K := by
  refine entM (by first | decide | decide +kernel) hst (by first | decide | exact Nat.le_of_ble_eq_true rfl) (fun p e s m below meth c ls F hr hnm hW hl => ?_)
  have F : Fx p l s m ([.ref v0, .int v1]).toArray meth c cX6_dark 2 RX6 G := F
  have hnm : meth.name = "dark" := hnm
  have hl : lv_has ls 2 [(0, .ref v0), (1, .int v1)] := hl
  have hx := F.1.1
  have hb := F.1.2.1
  unfold w_X6_dark at h
  refine lv_aload_n hx hb dX6_dark_0 rfl (lv_at hl 0 rfl) ?_
  refine lv_iconst (v := (0 : Int32)) hx hb dX6_dark_1 (by decide) ?_
  refine pf_7_0 F hW (x := (0 : Int32)) h.1 q_118 dX6_dark_2 (fun H locs hW => ?_)
  replace h := h.2
  obtain ⟨u1, eu⟩ : ∃ z, z = setI u 224 v0 (0 : Int32) := ⟨_, rfl⟩
  rw [← eu] at hW
  replace h := h u1 eu
  clear eu
  refine lv_aload_n hx hb dX6_dark_5 rfl (lv_at hl 0 rfl) ?_
  refine lv_iload_n hx hb dX6_dark_6 rfl (lv_at hl 1 rfl) ?_
  obtain ⟨hob, h⟩ := h
  refine cI (runV (n := 1) (As := [.int v1]) (rest := []) F hW (c_X6_isWalk F.2.2.2 G v0 v1 u1 _ h) hob (ci := 7) rfl q_437 q_438 q_439 q_5 q_440 rfl (by decide +kernel) ⟨Nat.le_of_ble_eq_true rfl, Nat.le_of_ble_eq_true rfl⟩ dX6_dark_7 rfl hl.1 (Nat.le_of_ble_eq_true rfl) ⟨Nat.zero_le _, Nat.zero_le _⟩) hW (fun r3 u2 h9 H locs hW => ?_)
  replace h := h9
  clear h9
  refine lv_if_eq (tgt := 22) hx hb dX6_dark_10 (by decide) (fun hc4 => ?_) (fun hc4 => ?_)
  · have h := h.1 hc4
    refine lv_aload_n hx hb dX6_dark_22 rfl (lv_at hl 0 rfl) ?_
    refine lv_iconst (v := (1 : Int32)) hx hb dX6_dark_23 (by decide) ?_
    obtain ⟨hob, h⟩ := h
    refine cI (runV (n := 1) (As := [.int (1 : Int32)]) (rest := []) F hW (c_X6_fails F.2.2.2 G v0 (1 : Int32) u2 _ h) hob (ci := 7) rfl q_126 q_127 q_128 q_5 q_129 rfl (by decide +kernel) ⟨Nat.le_of_ble_eq_true rfl, Nat.le_of_ble_eq_true rfl⟩ dX6_dark_24 rfl hl.1 (Nat.le_of_ble_eq_true rfl) ⟨Nat.zero_le _, Nat.zero_le _⟩) hW (fun r6 u5 h9 H locs hW => ?_)
    replace h := h9
    clear h9
    exact retI F hr hW h dX6_dark_27
  · have h := h.2 hc4
    refine lv_aload_n hx hb dX6_dark_13 rfl (lv_at hl 0 rfl) ?_
    refine gf_7_15 F hW h.1 q_86 dX6_dark_14 ?_
    replace h := h.2
    obtain ⟨r7, er⟩ : ∃ z, z = mR u2 239 v0 := ⟨_, rfl⟩
    rw [← er]
    replace h := h r7 er
    clear er
    refine lv_iload_n hx hb dX6_dark_17 rfl (lv_at hl 1 rfl) ?_
    obtain ⟨a8, ea, h⟩ := h
    subst ea
    refine rIald F hW h.1 h.2.1 dX6_dark_18 ?_
    replace h := h.2.2
    refine lv_goto (tgt := 27) hx hb dX6_dark_19 (by decide) ?_
    exact retI F hr hW h dX6_dark_27
set_option maxHeartbeats 4000000 in
set_option maxRecDepth 100000 in
theorem c_X6_day {l : Launch} (hst : l.stackTraces = false) (G : Ctx) (v0 : Nat) (u : Mem) (K : Int32 → Mem → Prop) (h : w_X6_day G v0 u K) : CtI l yX6_day (.code yX6_day cX6_day 1 (some .int)) 0 0 0 0 G [.ref v0] u K := by
  refine entM (by first | decide | decide +kernel) hst (by first | decide | exact Nat.le_of_ble_eq_true rfl) (fun p e s m below meth c ls F hr hnm hW hl => ?_)
  have F : Fx p l s m ([.ref v0]).toArray meth c cX6_day 1 RX6 G := F
  have hnm : meth.name = "day" := hnm
  have hl : lv_has ls 1 [(0, .ref v0)] := hl
  have hx := F.1.1
  have hb := F.1.2.1
  unfold w_X6_day at h
  refine lv_aload_n hx hb dX6_day_0 rfl (lv_at hl 0 rfl) ?_
  refine lv_iconst (v := (0 : Int32)) hx hb dX6_day_1 (by decide) ?_
  refine pf_7_0 F hW (x := (0 : Int32)) h.1 q_118 dX6_day_2 (fun H locs hW => ?_)
  replace h := h.2
  obtain ⟨u1, eu⟩ : ∃ z, z = setI u 224 v0 (0 : Int32) := ⟨_, rfl⟩
  rw [← eu] at hW
  replace h := h u1 eu
  clear eu
  refine lv_aload_n hx hb dX6_day_5 rfl (lv_at hl 0 rfl) ?_
  refine gf_7_1 F hW h.1 q_388 dX6_day_6 ?_
  replace h := h.2
  exact retI F hr hW h dX6_day_9
set_option maxHeartbeats 4000000 in
set_option maxRecDepth 100000 in
theorem c_X6_escortOf {l : Launch} (hst : l.stackTraces = false) (G : Ctx) (v0 : Nat) (v1 : Int32) (u : Mem) (K : Int32 → Mem → Prop) (h : w_X6_escortOf G v0 v1 u K) : CtI l yX6_escortOf (.code yX6_escortOf cX6_escortOf 2 (some .int)) 2 43 0 0 G [.ref v0, .int v1] u K := by
  refine entM (by first | decide | decide +kernel) hst (by first | decide | exact Nat.le_of_ble_eq_true rfl) (fun p e s m below meth c ls F hr hnm hW hl => ?_)
  have F : Fx p l s m ([.ref v0, .int v1]).toArray meth c cX6_escortOf 2 RX6 G := F
  have hnm : meth.name = "escortOf" := hnm
  have hl : lv_has ls 2 [(0, .ref v0), (1, .int v1)] := hl
  have hx := F.1.1
  have hb := F.1.2.1
  unfold w_X6_escortOf at h
  refine lv_aload_n hx hb dX6_escortOf_0 rfl (lv_at hl 0 rfl) ?_
  refine lv_iconst (v := (0 : Int32)) hx hb dX6_escortOf_1 (by decide) ?_
  refine pf_7_0 F hW (x := (0 : Int32)) h.1 q_118 dX6_escortOf_2 (fun H locs hW => ?_)
  replace h := h.2
  obtain ⟨u1, eu⟩ : ∃ z, z = setI u 224 v0 (0 : Int32) := ⟨_, rfl⟩
  rw [← eu] at hW
  replace h := h u1 eu
  clear eu
  refine lv_aload_n hx hb dX6_escortOf_5 rfl (lv_at hl 0 rfl) ?_
  refine lv_iload_n hx hb dX6_escortOf_6 rfl (lv_at hl 1 rfl) ?_
  obtain ⟨hob, h⟩ := h
  refine cI (runV (n := 1) (As := [.int v1]) (rest := []) F hW (c_X6_isWalk F.2.2.2 G v0 v1 u1 _ h) hob (ci := 7) rfl q_437 q_438 q_439 q_5 q_440 rfl (by decide +kernel) ⟨Nat.le_of_ble_eq_true rfl, Nat.le_of_ble_eq_true rfl⟩ dX6_escortOf_7 rfl hl.1 (Nat.le_of_ble_eq_true rfl) ⟨Nat.zero_le _, Nat.zero_le _⟩) hW (fun r3 u2 h9 H locs hW => ?_)
  replace h := h9
  clear h9
  refine lv_if_eq (tgt := 22) hx hb dX6_escortOf_10 (by decide) (fun hc4 => ?_) (fun hc4 => ?_)
  · have h := h.1 hc4
    refine lv_aload_n hx hb dX6_escortOf_22 rfl (lv_at hl 0 rfl) ?_
    refine lv_iconst (v := (1 : Int32)) hx hb dX6_escortOf_23 (by decide) ?_
    obtain ⟨hob, h⟩ := h
    refine cI (runV (n := 1) (As := [.int (1 : Int32)]) (rest := []) F hW (c_X6_fails F.2.2.2 G v0 (1 : Int32) u2 _ h) hob (ci := 7) rfl q_126 q_127 q_128 q_5 q_129 rfl (by decide +kernel) ⟨Nat.le_of_ble_eq_true rfl, Nat.le_of_ble_eq_true rfl⟩ dX6_escortOf_24 rfl hl.1 (Nat.le_of_ble_eq_true rfl) ⟨Nat.zero_le _, Nat.zero_le _⟩) hW (fun r6 u5 h9 H locs hW => ?_)
    replace h := h9
    clear h9
    exact retI F hr hW h dX6_escortOf_27
  · have h := h.2 hc4
    refine lv_aload_n hx hb dX6_escortOf_13 rfl (lv_at hl 0 rfl) ?_
    refine gf_7_14 F hW h.1 q_85 dX6_escortOf_14 ?_
    replace h := h.2
    obtain ⟨r7, er⟩ : ∃ z, z = mR u2 238 v0 := ⟨_, rfl⟩
    rw [← er]
    replace h := h r7 er
    clear er
    refine lv_iload_n hx hb dX6_escortOf_17 rfl (lv_at hl 1 rfl) ?_
    obtain ⟨a8, ea, h⟩ := h
    subst ea
    refine rIald F hW h.1 h.2.1 dX6_escortOf_18 ?_
    replace h := h.2.2
    refine lv_goto (tgt := 27) hx hb dX6_escortOf_19 (by decide) ?_
    exact retI F hr hW h dX6_escortOf_27
set_option maxHeartbeats 4000000 in
set_option maxRecDepth 100000 in
theorem c_X6_next {l : Launch} (hst : l.stackTraces = false) (G : Ctx) (v0 : Int32) (v1 : Int32) (u : Mem) (K : Int32 → Mem → Prop) (h : w_X6_next G v0 v1 u K) : CtI l yX6_next (.code yX6_next cX6_next 3 (some .int)) 0 0 0 0 G [.int v0, .int v1] u K := by
  refine entM (by first | decide | decide +kernel) hst (by first | decide | exact Nat.le_of_ble_eq_true rfl) (fun p e s m below meth c ls F hr hnm hW hl => ?_)
  have F : Fx p l s m ([.int v0, .int v1]).toArray meth c cX6_next 3 RX6 G := F
  have hnm : meth.name = "next" := hnm
  have hl : lv_has ls 3 [(0, .int v0), (1, .int v1)] := hl
  have hx := F.1.1
  have hb := F.1.2.1
  unfold w_X6_next at h
  refine lv_iload_n hx hb dX6_next_0 rfl (lv_at hl 1 rfl) ?_
  refine lv_iload_n hx hb dX6_next_1 rfl (lv_at hl 0 rfl) ?_
  refine lv_isub hx hb dX6_next_2 ?_
  refine lv_bipush (v := (8 : Int32)) hx hb dX6_next_3 (by decide) ?_
  refine lv_iadd hx hb dX6_next_5 ?_
  refine lv_bipush (v := (8 : Int32)) hx hb dX6_next_6 (by decide) ?_
  refine lv_irem hx hb dX6_next_8 h.1 ?_
  replace h := h.2
  refine lv_istore_n (lv' := [(2, .int (((v1 - v0) + (8 : Int32)) - ((v1 - v0) + (8 : Int32)) / (8 : Int32) * (8 : Int32))), (0, .int v0), (1, .int v1)]) hx hb dX6_next_9 rfl hl (by decide) rfl (fun ls hl9 => ?_)
  replace hl := hl9
  clear hl9
  refine lv_iload_n hx hb dX6_next_10 rfl (lv_at hl 0 rfl) ?_
  refine lv_if_ne (tgt := 18) hx hb dX6_next_11 (by decide) (fun hc1 => ?_) (fun hc1 => ?_)
  · have h := h.2 hc1
    refine lv_iload_n hx hb dX6_next_18 rfl (lv_at hl 0 rfl) ?_
    refine lv_iconst (v := (4 : Int32)) hx hb dX6_next_19 (by decide) ?_
    refine lv_icmp_le (tgt := 35) hx hb dX6_next_20 (by decide) (fun hc2 => ?_) (fun hc2 => ?_)
    · have h := h.1 hc2
      refine lv_iload_n hx hb dX6_next_35 rfl (lv_at hl 1 rfl) ?_
      refine lv_iconst (v := (1 : Int32)) hx hb dX6_next_36 (by decide) ?_
      refine lv_iadd hx hb dX6_next_37 ?_
      refine lv_bipush (v := (8 : Int32)) hx hb dX6_next_38 (by decide) ?_
      refine lv_irem hx hb dX6_next_40 h.1 ?_
      replace h := h.2
      exact retI F hr hW h dX6_next_41
    · have h := h.2 hc2
      refine lv_iload_n hx hb dX6_next_23 rfl (lv_at hl 1 rfl) ?_
      refine lv_bipush (v := (8 : Int32)) hx hb dX6_next_24 (by decide) ?_
      refine lv_iadd hx hb dX6_next_26 ?_
      refine lv_iconst (v := (1 : Int32)) hx hb dX6_next_27 (by decide) ?_
      refine lv_isub hx hb dX6_next_28 ?_
      refine lv_bipush (v := (8 : Int32)) hx hb dX6_next_29 (by decide) ?_
      refine lv_irem hx hb dX6_next_31 h.1 ?_
      replace h := h.2
      refine lv_goto (tgt := 41) hx hb dX6_next_32 (by decide) ?_
      exact retI F hr hW h dX6_next_41
  · have h := h.1 hc1
    refine lv_iload_n hx hb dX6_next_14 rfl (lv_at hl 1 rfl) ?_
    refine lv_goto (tgt := 41) hx hb dX6_next_15 (by decide) ?_
    exact retI F hr hW h dX6_next_41
set_option maxHeartbeats 4000000 in
set_option maxRecDepth 100000 in
theorem t_X6_isTaken_72 {p : Program} {l : Launch} {e : Env} {s : State} {m : MethodId} {below : List Frame} {meth : Method} {c : Code} {G : Ctx} (v0 : Nat) (v1 : Int32) (v2 : Int32) (v3 : Int32) (F : Fx p l s m ([.ref v0, .int v1, .int v2, .int v3]).toArray meth c cX6_isTaken 6 RX6 G) (hr : meth.sig.returnType = (some .boolean)) (K : Int32 → Mem → Prop) (J6 : Int32 → Int32 → Mem → Prop) (hJ6 : ∀ (v4 : Int32) (v5 : Int32) (u : Mem) (H : Heap) (locs : List Loc) (ls : Array Slot), J6 v4 v5 u → Wd G u s H locs → lv_has ls 6 [(0, .ref v0), (1, .int v1), (2, .int v2), (3, .int v3), (4, .int v4), (5, .int v5)] → W p l e { frames := 0, cells := 0, slots := 0, locals := 0 } s m ([.ref v0, .int v1, .int v2, .int v3]).toArray below meth c H locs 0 0 (MQ below (va_Qi K (fun u' t => Wp G u' t.heap) (Ab G)) ([.ref v0, .int v1, .int v2, .int v3]).toArray s 0 0 (Ab G)) (F0 m 6 ls [])) : ∀ (v5 : Int32) (s0 : Int32) (u : Mem) (H : Heap) (locs : List Loc) (ls : Array Slot), w_X6_isTaken_72 G v0 v1 v2 v3 K J6 v5 s0 u → Wd G u s H locs → lv_has ls 6 [(0, .ref v0), (1, .int v1), (2, .int v2), (3, .int v3), (5, .int v5)] → W p l e { frames := 0, cells := 0, slots := 0, locals := 0 } s m ([.ref v0, .int v1, .int v2, .int v3]).toArray below meth c H locs 0 0 (MQ below (va_Qi K (fun u' t => Wp G u' t.heap) (Ab G)) ([.ref v0, .int v1, .int v2, .int v3]).toArray s 0 0 (Ab G)) (F0 m 72 ls [.int s0]) := by
  have hx := F.1.1
  have hb := F.1.2.1
  intro v5 s0 u H locs ls h hW hl
  unfold w_X6_isTaken_72 at h
  refine lv_istore (lv' := [(4, .int s0), (0, .ref v0), (1, .int v1), (2, .int v2), (3, .int v3), (5, .int v5)]) hx hb dX6_isTaken_72 hl (by decide) rfl (fun ls hl9 => ?_)
  replace hl := hl9
  clear hl9
  refine lv_iinc (v := (v5 + 1)) (lv' := [(5, .int (v5 + 1)), (4, .int s0), (0, .ref v0), (1, .int v1), (2, .int v2), (3, .int v3)]) hx hb dX6_isTaken_74 hl (k := 5) rfl rfl (by decide) rfl (fun ls hl9 => ?_)
  replace hl := hl9
  clear hl9
  refine lv_goto (tgt := 6) hx hb dX6_isTaken_77 (by decide) ?_
  exact hJ6 s0 (v5 + 1) u _ _ _ h hW (lv_sub hl [2, 3, 4, 5, 1, 0] rfl)
set_option maxHeartbeats 4000000 in
set_option maxRecDepth 100000 in
theorem t_X6_isTaken_71 {p : Program} {l : Launch} {e : Env} {s : State} {m : MethodId} {below : List Frame} {meth : Method} {c : Code} {G : Ctx} (v0 : Nat) (v1 : Int32) (v2 : Int32) (v3 : Int32) (F : Fx p l s m ([.ref v0, .int v1, .int v2, .int v3]).toArray meth c cX6_isTaken 6 RX6 G) (hr : meth.sig.returnType = (some .boolean)) (K : Int32 → Mem → Prop) (J6 : Int32 → Int32 → Mem → Prop) (hJ6 : ∀ (v4 : Int32) (v5 : Int32) (u : Mem) (H : Heap) (locs : List Loc) (ls : Array Slot), J6 v4 v5 u → Wd G u s H locs → lv_has ls 6 [(0, .ref v0), (1, .int v1), (2, .int v2), (3, .int v3), (4, .int v4), (5, .int v5)] → W p l e { frames := 0, cells := 0, slots := 0, locals := 0 } s m ([.ref v0, .int v1, .int v2, .int v3]).toArray below meth c H locs 0 0 (MQ below (va_Qi K (fun u' t => Wp G u' t.heap) (Ab G)) ([.ref v0, .int v1, .int v2, .int v3]).toArray s 0 0 (Ab G)) (F0 m 6 ls [])) : ∀ (v5 : Int32) (u : Mem) (H : Heap) (locs : List Loc) (ls : Array Slot), w_X6_isTaken_71 G v0 v1 v2 v3 K J6 v5 u → Wd G u s H locs → lv_has ls 6 [(0, .ref v0), (1, .int v1), (2, .int v2), (3, .int v3), (5, .int v5)] → W p l e { frames := 0, cells := 0, slots := 0, locals := 0 } s m ([.ref v0, .int v1, .int v2, .int v3]).toArray below meth c H locs 0 0 (MQ below (va_Qi K (fun u' t => Wp G u' t.heap) (Ab G)) ([.ref v0, .int v1, .int v2, .int v3]).toArray s 0 0 (Ab G)) (F0 m 71 ls []) := by
  have hx := F.1.1
  have hb := F.1.2.1
  intro v5 u H locs ls h hW hl
  unfold w_X6_isTaken_71 at h
  refine lv_iconst (v := (0 : Int32)) hx hb dX6_isTaken_71 (by decide) ?_
  exact t_X6_isTaken_72 v0 v1 v2 v3 F hr K J6 hJ6 v5 (0 : Int32) u _ _ _ h hW (lv_sub hl [0, 1, 2, 3, 4] rfl)
set_option maxHeartbeats 4000000 in
set_option maxRecDepth 100000 in
theorem t_X6_isTaken_67 {p : Program} {l : Launch} {e : Env} {s : State} {m : MethodId} {below : List Frame} {meth : Method} {c : Code} {G : Ctx} (v0 : Nat) (v1 : Int32) (v2 : Int32) (v3 : Int32) (F : Fx p l s m ([.ref v0, .int v1, .int v2, .int v3]).toArray meth c cX6_isTaken 6 RX6 G) (hr : meth.sig.returnType = (some .boolean)) (K : Int32 → Mem → Prop) (J6 : Int32 → Int32 → Mem → Prop) (hJ6 : ∀ (v4 : Int32) (v5 : Int32) (u : Mem) (H : Heap) (locs : List Loc) (ls : Array Slot), J6 v4 v5 u → Wd G u s H locs → lv_has ls 6 [(0, .ref v0), (1, .int v1), (2, .int v2), (3, .int v3), (4, .int v4), (5, .int v5)] → W p l e { frames := 0, cells := 0, slots := 0, locals := 0 } s m ([.ref v0, .int v1, .int v2, .int v3]).toArray below meth c H locs 0 0 (MQ below (va_Qi K (fun u' t => Wp G u' t.heap) (Ab G)) ([.ref v0, .int v1, .int v2, .int v3]).toArray s 0 0 (Ab G)) (F0 m 6 ls [])) : ∀ (v5 : Int32) (u : Mem) (H : Heap) (locs : List Loc) (ls : Array Slot), w_X6_isTaken_67 G v0 v1 v2 v3 K J6 v5 u → Wd G u s H locs → lv_has ls 6 [(0, .ref v0), (1, .int v1), (2, .int v2), (3, .int v3), (5, .int v5)] → W p l e { frames := 0, cells := 0, slots := 0, locals := 0 } s m ([.ref v0, .int v1, .int v2, .int v3]).toArray below meth c H locs 0 0 (MQ below (va_Qi K (fun u' t => Wp G u' t.heap) (Ab G)) ([.ref v0, .int v1, .int v2, .int v3]).toArray s 0 0 (Ab G)) (F0 m 67 ls []) := by
  have hx := F.1.1
  have hb := F.1.2.1
  intro v5 u H locs ls h hW hl
  unfold w_X6_isTaken_67 at h
  refine lv_iconst (v := (1 : Int32)) hx hb dX6_isTaken_67 (by decide) ?_
  refine lv_goto (tgt := 72) hx hb dX6_isTaken_68 (by decide) ?_
  exact t_X6_isTaken_72 v0 v1 v2 v3 F hr K J6 hJ6 v5 (1 : Int32) u _ _ _ h hW (lv_sub hl [0, 1, 2, 3, 4] rfl)
set_option maxHeartbeats 4000000 in
set_option maxRecDepth 100000 in
theorem t_X6_isTaken_6 {p : Program} {l : Launch} {e : Env} {s : State} {m : MethodId} {below : List Frame} {meth : Method} {c : Code} {G : Ctx} (v0 : Nat) (v1 : Int32) (v2 : Int32) (v3 : Int32) (F : Fx p l s m ([.ref v0, .int v1, .int v2, .int v3]).toArray meth c cX6_isTaken 6 RX6 G) (hr : meth.sig.returnType = (some .boolean)) (K : Int32 → Mem → Prop) : ∀ (n : Nat), ∀ (v4 : Int32) (v5 : Int32) (u : Mem) (H : Heap) (locs : List Loc) (ls : Array Slot), w_X6_isTaken_6 G v0 v1 v2 v3 K n v4 v5 u → Wd G u s H locs → lv_has ls 6 [(0, .ref v0), (1, .int v1), (2, .int v2), (3, .int v3), (4, .int v4), (5, .int v5)] → W p l e { frames := 0, cells := 0, slots := 0, locals := 0 } s m ([.ref v0, .int v1, .int v2, .int v3]).toArray below meth c H locs 0 0 (MQ below (va_Qi K (fun u' t => Wp G u' t.heap) (Ab G)) ([.ref v0, .int v1, .int v2, .int v3]).toArray s 0 0 (Ab G)) (F0 m 6 ls []) := by
  have hx := F.1.1
  have hb := F.1.2.1
  intro n
  induction n with
  | zero =>
    intro v4 v5 u H locs ls h hW hl
    exact h.elim
  | succ n hJ6 =>
    intro v4 v5 u H locs ls h hW hl
    have h : b_X6_isTaken_6 G v0 v1 v2 v3 K (w_X6_isTaken_6 G v0 v1 v2 v3 K n) v4 v5 u := h
    revert h
    generalize w_X6_isTaken_6 G v0 v1 v2 v3 K n = J6 at hJ6 ⊢
    intro h
    unfold b_X6_isTaken_6 at h
    refine lv_iload hx hb dX6_isTaken_6 (lv_at hl 5 rfl) ?_
    refine lv_aload_n hx hb dX6_isTaken_8 rfl (lv_at hl 0 rfl) ?_
    refine gf_7_17 F hW h.1 q_387 dX6_isTaken_9 ?_
    replace h := h.2
    refine lv_icmp_ge (tgt := 80) hx hb dX6_isTaken_12 (by decide) (fun hc29 => ?_) (fun hc29 => ?_)
    · have h := h.1 hc29
      refine lv_iload hx hb dX6_isTaken_80 (lv_at hl 4 rfl) ?_
      exact retZ F hr hW h.1 h.2 dX6_isTaken_82
    · have h := h.2 hc29
      refine lv_iload hx hb dX6_isTaken_15 (lv_at hl 4 rfl) ?_
      refine lv_if_ne (tgt := 67) hx hb dX6_isTaken_17 (by decide) (fun hc30 => ?_) (fun hc30 => ?_)
      · have h := h.2 hc30
        exact t_X6_isTaken_67 v0 v1 v2 v3 F hr K J6 hJ6 v5 u _ _ _ h hW (lv_sub hl [0, 1, 2, 3, 5] rfl)
      · have h := h.1 hc30
        refine lv_aload_n hx hb dX6_isTaken_20 rfl (lv_at hl 0 rfl) ?_
        refine gf_7_18 F hW h.1 q_88 dX6_isTaken_21 ?_
        replace h := h.2
        obtain ⟨r31, er⟩ : ∃ z, z = mR u 242 v0 := ⟨_, rfl⟩
        rw [← er]
        replace h := h r31 er
        clear er
        refine lv_iload hx hb dX6_isTaken_24 (lv_at hl 5 rfl) ?_
        obtain ⟨a32, ea, h⟩ := h
        subst ea
        refine rIald F hW h.1 h.2.1 dX6_isTaken_26 ?_
        replace h := h.2.2
        refine lv_iload_n hx hb dX6_isTaken_27 rfl (lv_at hl 1 rfl) ?_
        refine lv_icmp_ne (tgt := 71) hx hb dX6_isTaken_28 (by decide) (fun hc33 => ?_) (fun hc33 => ?_)
        · have h := h.2 hc33
          exact t_X6_isTaken_71 v0 v1 v2 v3 F hr K J6 hJ6 v5 u _ _ _ h hW (lv_sub hl [0, 1, 2, 3, 5] rfl)
        · have h := h.1 hc33
          refine lv_aload_n hx hb dX6_isTaken_31 rfl (lv_at hl 0 rfl) ?_
          refine gf_7_19 F hW h.1 q_89 dX6_isTaken_32 ?_
          replace h := h.2
          obtain ⟨r34, er⟩ : ∃ z, z = mR u 243 v0 := ⟨_, rfl⟩
          rw [← er]
          replace h := h r34 er
          clear er
          refine lv_iload hx hb dX6_isTaken_35 (lv_at hl 5 rfl) ?_
          obtain ⟨a35, ea, h⟩ := h
          subst ea
          refine rIald F hW h.1 h.2.1 dX6_isTaken_37 ?_
          replace h := h.2.2
          refine lv_iload_n hx hb dX6_isTaken_38 rfl (lv_at hl 2 rfl) ?_
          refine lv_icmp_ne (tgt := 71) hx hb dX6_isTaken_39 (by decide) (fun hc36 => ?_) (fun hc36 => ?_)
          · have h := h.2 hc36
            exact t_X6_isTaken_71 v0 v1 v2 v3 F hr K J6 hJ6 v5 u _ _ _ h hW (lv_sub hl [0, 1, 2, 3, 5] rfl)
          · have h := h.1 hc36
            refine lv_aload_n hx hb dX6_isTaken_42 rfl (lv_at hl 0 rfl) ?_
            refine gf_7_20 F hW h.1 q_90 dX6_isTaken_43 ?_
            replace h := h.2
            obtain ⟨r37, er⟩ : ∃ z, z = mR u 244 v0 := ⟨_, rfl⟩
            rw [← er]
            replace h := h r37 er
            clear er
            refine lv_iload hx hb dX6_isTaken_46 (lv_at hl 5 rfl) ?_
            obtain ⟨a38, ea, h⟩ := h
            subst ea
            refine rIald F hW h.1 h.2.1 dX6_isTaken_48 ?_
            replace h := h.2.2
            refine lv_iload_n hx hb dX6_isTaken_49 rfl (lv_at hl 3 rfl) ?_
            refine lv_icmp_ne (tgt := 71) hx hb dX6_isTaken_50 (by decide) (fun hc39 => ?_) (fun hc39 => ?_)
            · have h := h.2 hc39
              exact t_X6_isTaken_71 v0 v1 v2 v3 F hr K J6 hJ6 v5 u _ _ _ h hW (lv_sub hl [0, 1, 2, 3, 5] rfl)
            · have h := h.1 hc39
              refine lv_aload_n hx hb dX6_isTaken_53 rfl (lv_at hl 0 rfl) ?_
              refine gf_7_1 F hW h.1 q_388 dX6_isTaken_54 ?_
              replace h := h.2
              refine lv_aload_n hx hb dX6_isTaken_57 rfl (lv_at hl 0 rfl) ?_
              refine gf_7_21 F hW h.1 q_91 dX6_isTaken_58 ?_
              replace h := h.2
              obtain ⟨r40, er⟩ : ∃ z, z = mR u 245 v0 := ⟨_, rfl⟩
              rw [← er]
              replace h := h r40 er
              clear er
              refine lv_iload hx hb dX6_isTaken_61 (lv_at hl 5 rfl) ?_
              obtain ⟨a41, ea, h⟩ := h
              subst ea
              refine rIald F hW h.1 h.2.1 dX6_isTaken_63 ?_
              replace h := h.2.2
              refine lv_icmp_ge (tgt := 71) hx hb dX6_isTaken_64 (by decide) (fun hc42 => ?_) (fun hc42 => ?_)
              · have h := h.1 hc42
                exact t_X6_isTaken_71 v0 v1 v2 v3 F hr K J6 hJ6 v5 u _ _ _ h hW (lv_sub hl [0, 1, 2, 3, 5] rfl)
              · have h := h.2 hc42
                exact t_X6_isTaken_67 v0 v1 v2 v3 F hr K J6 hJ6 v5 u _ _ _ h hW (lv_sub hl [0, 1, 2, 3, 5] rfl)
set_option maxHeartbeats 4000000 in
set_option maxRecDepth 100000 in
theorem c_X6_isTaken {l : Launch} (hst : l.stackTraces = false) (G : Ctx) (v0 : Nat) (v1 : Int32) (v2 : Int32) (v3 : Int32) (u : Mem) (K : Int32 → Mem → Prop) (h : w_X6_isTaken G v0 v1 v2 v3 u K) : CtI l yX6_isTaken (.code yX6_isTaken cX6_isTaken 6 (some .boolean)) 0 0 0 0 G [.ref v0, .int v1, .int v2, .int v3] u K := by
  refine entM (by first | decide | decide +kernel) hst (by first | decide | exact Nat.le_of_ble_eq_true rfl) (fun p e s m below meth c ls F hr hnm hW hl => ?_)
  have F : Fx p l s m ([.ref v0, .int v1, .int v2, .int v3]).toArray meth c cX6_isTaken 6 RX6 G := F
  have hnm : meth.name = "isTaken" := hnm
  have hl : lv_has ls 6 [(0, .ref v0), (1, .int v1), (2, .int v2), (3, .int v3)] := hl
  have hx := F.1.1
  have hb := F.1.2.1
  unfold w_X6_isTaken at h
  refine lv_iconst (v := (0 : Int32)) hx hb dX6_isTaken_0 (by decide) ?_
  refine lv_istore (lv' := [(4, .int (0 : Int32)), (0, .ref v0), (1, .int v1), (2, .int v2), (3, .int v3)]) hx hb dX6_isTaken_1 hl (by decide) rfl (fun ls hl9 => ?_)
  replace hl := hl9
  clear hl9
  refine lv_iconst (v := (0 : Int32)) hx hb dX6_isTaken_3 (by decide) ?_
  refine lv_istore (lv' := [(5, .int (0 : Int32)), (4, .int (0 : Int32)), (0, .ref v0), (1, .int v1), (2, .int v2), (3, .int v3)]) hx hb dX6_isTaken_4 hl (by decide) rfl (fun ls hl9 => ?_)
  replace hl := hl9
  clear hl9
  obtain ⟨n, h⟩ := h
  exact t_X6_isTaken_6 v0 v1 v2 v3 F hr K n (0 : Int32) (0 : Int32) u _ _ _ h hW (lv_sub hl [2, 3, 4, 5, 1, 0] rfl)
set_option maxHeartbeats 4000000 in
set_option maxRecDepth 100000 in
theorem t_X6_middle_54 {p : Program} {l : Launch} {e : Env} {s : State} {m : MethodId} {below : List Frame} {meth : Method} {c : Code} {G : Ctx} (v0 : Nat) (v1 : Int32) (F : Fx p l s m ([.ref v0, .int v1]).toArray meth c cX6_middle 7 RX6 G) (hr : meth.sig.returnType = (some .int)) (K : Int32 → Mem → Prop) : ∀ (v4 : Int32) (v5 : Int32) (s0 : Int32) (u : Mem) (H : Heap) (locs : List Loc) (ls : Array Slot), w_X6_middle_54 G v0 v1 K v4 v5 s0 u → Wd G u s H locs → lv_has ls 7 [(0, .ref v0), (1, .int v1), (4, .int v4), (5, .int v5)] → W p l e { frames := 0, cells := 0, slots := 0, locals := 0 } s m ([.ref v0, .int v1]).toArray below meth c H locs 0 0 (MQ below (va_Qi K (fun u' t => Wp G u' t.heap) (Ab G)) ([.ref v0, .int v1]).toArray s 0 0 (Ab G)) (F0 m 54 ls [.int s0]) := by
  have hx := F.1.1
  have hb := F.1.2.1
  intro v4 v5 s0 u H locs ls h hW hl
  unfold w_X6_middle_54 at h
  refine lv_istore (lv' := [(6, .int s0), (0, .ref v0), (1, .int v1), (4, .int v4), (5, .int v5)]) hx hb dX6_middle_54 hl (by decide) rfl (fun ls hl9 => ?_)
  replace hl := hl9
  clear hl9
  refine lv_iload hx hb dX6_middle_56 (lv_at hl 3 rfl) ?_
  refine lv_iload hx hb dX6_middle_58 (lv_at hl 4 rfl) ?_
  refine lv_icmp_ge (tgt := 68) hx hb dX6_middle_60 (by decide) (fun hc14 => ?_) (fun hc14 => ?_)
  · have h := h.1 hc14
    refine lv_iload hx hb dX6_middle_68 (lv_at hl 3 rfl) ?_
    refine lv_iload hx hb dX6_middle_70 (lv_at hl 0 rfl) ?_
    refine lv_icmp_le (tgt := 80) hx hb dX6_middle_72 (by decide) (fun hc15 => ?_) (fun hc15 => ?_)
    · have h := h.1 hc15
      refine lv_iload hx hb dX6_middle_80 (lv_at hl 3 rfl) ?_
      exact retI F hr hW h dX6_middle_82
    · have h := h.2 hc15
      refine lv_iload hx hb dX6_middle_75 (lv_at hl 0 rfl) ?_
      refine lv_goto (tgt := 82) hx hb dX6_middle_77 (by decide) ?_
      exact retI F hr hW h dX6_middle_82
  · have h := h.2 hc14
    refine lv_iload hx hb dX6_middle_63 (lv_at hl 4 rfl) ?_
    refine lv_goto (tgt := 82) hx hb dX6_middle_65 (by decide) ?_
    exact retI F hr hW h dX6_middle_82
set_option maxHeartbeats 4000000 in
set_option maxRecDepth 100000 in
theorem t_X6_middle_42 {p : Program} {l : Launch} {e : Env} {s : State} {m : MethodId} {below : List Frame} {meth : Method} {c : Code} {G : Ctx} (v0 : Nat) (v1 : Int32) (F : Fx p l s m ([.ref v0, .int v1]).toArray meth c cX6_middle 7 RX6 G) (hr : meth.sig.returnType = (some .int)) (K : Int32 → Mem → Prop) : ∀ (v2 : Int32) (v3 : Int32) (v4 : Int32) (s0 : Int32) (u : Mem) (H : Heap) (locs : List Loc) (ls : Array Slot), w_X6_middle_42 G v0 v1 K v2 v3 v4 s0 u → Wd G u s H locs → lv_has ls 7 [(0, .ref v0), (1, .int v1), (2, .int v2), (3, .int v3), (4, .int v4)] → W p l e { frames := 0, cells := 0, slots := 0, locals := 0 } s m ([.ref v0, .int v1]).toArray below meth c H locs 0 0 (MQ below (va_Qi K (fun u' t => Wp G u' t.heap) (Ab G)) ([.ref v0, .int v1]).toArray s 0 0 (Ab G)) (F0 m 42 ls [.int s0]) := by
  have hx := F.1.1
  have hb := F.1.2.1
  intro v2 v3 v4 s0 u H locs ls h hW hl
  unfold w_X6_middle_42 at h
  refine lv_istore (lv' := [(5, .int s0), (0, .ref v0), (1, .int v1), (2, .int v2), (3, .int v3), (4, .int v4)]) hx hb dX6_middle_42 hl (by decide) rfl (fun ls hl9 => ?_)
  replace hl := hl9
  clear hl9
  refine lv_iload_n hx hb dX6_middle_44 rfl (lv_at hl 3 rfl) ?_
  refine lv_iload_n hx hb dX6_middle_45 rfl (lv_at hl 4 rfl) ?_
  refine lv_icmp_ge (tgt := 53) hx hb dX6_middle_46 (by decide) (fun hc16 => ?_) (fun hc16 => ?_)
  · have h := h.1 hc16
    refine lv_iload_n hx hb dX6_middle_53 rfl (lv_at hl 3 rfl) ?_
    exact t_X6_middle_54 v0 v1 F hr K v4 s0 v2 u _ _ _ h hW (lv_sub hl [1, 2, 5, 0] rfl)
  · have h := h.2 hc16
    refine lv_iload_n hx hb dX6_middle_49 rfl (lv_at hl 4 rfl) ?_
    refine lv_goto (tgt := 54) hx hb dX6_middle_50 (by decide) ?_
    exact t_X6_middle_54 v0 v1 F hr K v4 s0 v3 u _ _ _ h hW (lv_sub hl [1, 2, 5, 0] rfl)
set_option maxHeartbeats 4000000 in
set_option maxRecDepth 100000 in
theorem c_X6_middle {l : Launch} (hst : l.stackTraces = false) (G : Ctx) (v0 : Nat) (v1 : Int32) (u : Mem) (K : Int32 → Mem → Prop) (h : w_X6_middle G v0 v1 u K) : CtI l yX6_middle (.code yX6_middle cX6_middle 7 (some .int)) 0 0 0 0 G [.ref v0, .int v1] u K := by
  refine entM (by first | decide | decide +kernel) hst (by first | decide | exact Nat.le_of_ble_eq_true rfl) (fun p e s m below meth c ls F hr hnm hW hl => ?_)
  have F : Fx p l s m ([.ref v0, .int v1]).toArray meth c cX6_middle 7 RX6 G := F
  have hnm : meth.name = "middle" := hnm
  have hl : lv_has ls 7 [(0, .ref v0), (1, .int v1)] := hl
  have hx := F.1.1
  have hb := F.1.2.1
  unfold w_X6_middle at h
  refine lv_aload_n hx hb dX6_middle_0 rfl (lv_at hl 0 rfl) ?_
  refine gf_7_6 F hW h.1 q_78 dX6_middle_1 ?_
  replace h := h.2
  obtain ⟨r1, er⟩ : ∃ z, z = mR u 230 v0 := ⟨_, rfl⟩
  rw [← er]
  replace h := h r1 er
  clear er
  refine lv_iconst (v := (3 : Int32)) hx hb dX6_middle_4 (by decide) ?_
  refine lv_iload_n hx hb dX6_middle_5 rfl (lv_at hl 1 rfl) ?_
  refine lv_imul hx hb dX6_middle_6 ?_
  obtain ⟨a2, ea, h⟩ := h
  subst ea
  refine rIald F hW h.1 h.2.1 dX6_middle_7 ?_
  replace h := h.2.2
  refine lv_istore_n (lv' := [(2, .int (mA u a2 ((3 : Int32) * v1).toNatClampNeg)), (0, .ref v0), (1, .int v1)]) hx hb dX6_middle_8 rfl hl (by decide) rfl (fun ls hl9 => ?_)
  replace hl := hl9
  clear hl9
  refine lv_aload_n hx hb dX6_middle_9 rfl (lv_at hl 1 rfl) ?_
  refine gf_7_6 F hW h.1 q_78 dX6_middle_10 ?_
  replace h := h.2
  obtain ⟨r3, er⟩ : ∃ z, z = mR u 230 v0 := ⟨_, rfl⟩
  rw [← er]
  replace h := h r3 er
  clear er
  refine lv_iconst (v := (3 : Int32)) hx hb dX6_middle_13 (by decide) ?_
  refine lv_iload_n hx hb dX6_middle_14 rfl (lv_at hl 2 rfl) ?_
  refine lv_imul hx hb dX6_middle_15 ?_
  refine lv_iconst (v := (1 : Int32)) hx hb dX6_middle_16 (by decide) ?_
  refine lv_iadd hx hb dX6_middle_17 ?_
  obtain ⟨a4, ea, h⟩ := h
  subst ea
  refine rIald F hW h.1 h.2.1 dX6_middle_18 ?_
  replace h := h.2.2
  refine lv_istore_n (lv' := [(3, .int (mA u a4 (((3 : Int32) * v1) + (1 : Int32)).toNatClampNeg)), (2, .int (mA u a2 ((3 : Int32) * v1).toNatClampNeg)), (0, .ref v0), (1, .int v1)]) hx hb dX6_middle_19 rfl hl (by decide) rfl (fun ls hl9 => ?_)
  replace hl := hl9
  clear hl9
  refine lv_aload_n hx hb dX6_middle_20 rfl (lv_at hl 2 rfl) ?_
  refine gf_7_6 F hW h.1 q_78 dX6_middle_21 ?_
  replace h := h.2
  obtain ⟨r5, er⟩ : ∃ z, z = mR u 230 v0 := ⟨_, rfl⟩
  rw [← er]
  replace h := h r5 er
  clear er
  refine lv_iconst (v := (3 : Int32)) hx hb dX6_middle_24 (by decide) ?_
  refine lv_iload_n hx hb dX6_middle_25 rfl (lv_at hl 3 rfl) ?_
  refine lv_imul hx hb dX6_middle_26 ?_
  refine lv_iconst (v := (2 : Int32)) hx hb dX6_middle_27 (by decide) ?_
  refine lv_iadd hx hb dX6_middle_28 ?_
  obtain ⟨a6, ea, h⟩ := h
  subst ea
  refine rIald F hW h.1 h.2.1 dX6_middle_29 ?_
  replace h := h.2.2
  refine lv_istore (lv' := [(4, .int (mA u a6 (((3 : Int32) * v1) + (2 : Int32)).toNatClampNeg)), (3, .int (mA u a4 (((3 : Int32) * v1) + (1 : Int32)).toNatClampNeg)), (2, .int (mA u a2 ((3 : Int32) * v1).toNatClampNeg)), (0, .ref v0), (1, .int v1)]) hx hb dX6_middle_30 hl (by decide) rfl (fun ls hl9 => ?_)
  replace hl := hl9
  clear hl9
  refine lv_iload_n hx hb dX6_middle_32 rfl (lv_at hl 2 rfl) ?_
  refine lv_iload_n hx hb dX6_middle_33 rfl (lv_at hl 1 rfl) ?_
  refine lv_icmp_ge (tgt := 41) hx hb dX6_middle_34 (by decide) (fun hc7 => ?_) (fun hc7 => ?_)
  · have h := h.1 hc7
    refine lv_iload_n hx hb dX6_middle_41 rfl (lv_at hl 1 rfl) ?_
    exact t_X6_middle_42 v0 v1 F hr K (mA u a2 ((3 : Int32) * v1).toNatClampNeg) (mA u a4 (((3 : Int32) * v1) + (1 : Int32)).toNatClampNeg) (mA u a6 (((3 : Int32) * v1) + (2 : Int32)).toNatClampNeg) (mA u a4 (((3 : Int32) * v1) + (1 : Int32)).toNatClampNeg) u _ _ _ h hW (lv_sub hl [3, 4, 2, 1, 0] rfl)
  · have h := h.2 hc7
    refine lv_iload_n hx hb dX6_middle_37 rfl (lv_at hl 2 rfl) ?_
    refine lv_goto (tgt := 42) hx hb dX6_middle_38 (by decide) ?_
    exact t_X6_middle_42 v0 v1 F hr K (mA u a2 ((3 : Int32) * v1).toNatClampNeg) (mA u a4 (((3 : Int32) * v1) + (1 : Int32)).toNatClampNeg) (mA u a6 (((3 : Int32) * v1) + (2 : Int32)).toNatClampNeg) (mA u a2 ((3 : Int32) * v1).toNatClampNeg) u _ _ _ h hW (lv_sub hl [3, 4, 2, 1, 0] rfl)
set_option maxHeartbeats 4000000 in
set_option maxRecDepth 100000 in
theorem c_X6_takes {l : Launch} (hst : l.stackTraces = false) (G : Ctx) (v0 : Nat) (v1 : Int32) (v2 : Int32) (u : Mem) (K : Mem → Prop) (h : w_X6_takes G v0 v1 v2 u K) : CtV l yX6_takes (.code yX6_takes cX6_takes 3 none) 1 26 0 0 G [.ref v0, .int v1, .int v2] u K := by
  refine entM (by first | decide | decide +kernel) hst (by first | decide | exact Nat.le_of_ble_eq_true rfl) (fun p e s m below meth c ls F hr hnm hW hl => ?_)
  have F : Fx p l s m ([.ref v0, .int v1, .int v2]).toArray meth c cX6_takes 3 RX6 G := F
  have hnm : meth.name = "takes" := hnm
  have hl : lv_has ls 3 [(0, .ref v0), (1, .int v1), (2, .int v2)] := hl
  have hx := F.1.1
  have hb := F.1.2.1
  unfold w_X6_takes at h
  refine lv_aload_n hx hb dX6_takes_0 rfl (lv_at hl 0 rfl) ?_
  refine gf_7_5 F hW h.1 q_77 dX6_takes_1 ?_
  replace h := h.2
  obtain ⟨r1, er⟩ : ∃ z, z = mR u 229 v0 := ⟨_, rfl⟩
  rw [← er]
  replace h := h r1 er
  clear er
  refine lv_iload_n hx hb dX6_takes_4 rfl (lv_at hl 1 rfl) ?_
  obtain ⟨a2, ea, h⟩ := h
  subst ea
  refine rZald F hW h.1 h.2.1 dX6_takes_5 ?_
  replace h := h.2.2
  refine lv_if_eq (tgt := 94) hx hb dX6_takes_6 (by decide) (fun hc3 => ?_) (fun hc3 => ?_)
  · have h := h.1 hc3
    exact retV F hr hW h dX6_takes_94
  · have h := h.2 hc3
    refine lv_aload_n hx hb dX6_takes_9 rfl (lv_at hl 0 rfl) ?_
    refine gf_7_17 F hW h.1 q_387 dX6_takes_10 ?_
    replace h := h.2
    refine lv_sipush (v := (300 : Int32)) hx hb dX6_takes_13 (by decide) ?_
    refine lv_icmp_ge (tgt := 94) hx hb dX6_takes_16 (by decide) (fun hc4 => ?_) (fun hc4 => ?_)
    · have h := h.1 hc4
      exact retV F hr hW h dX6_takes_94
    · have h := h.2 hc4
      refine lv_aload_n hx hb dX6_takes_19 rfl (lv_at hl 0 rfl) ?_
      refine lv_iload_n hx hb dX6_takes_20 rfl (lv_at hl 1 rfl) ?_
      refine lv_iload_n hx hb dX6_takes_21 rfl (lv_at hl 2 rfl) ?_
      refine lv_aload_n hx hb dX6_takes_22 rfl (lv_at hl 0 rfl) ?_
      refine gf_7_1 F hW h.1 q_388 dX6_takes_23 ?_
      replace h := h.2
      obtain ⟨hob, h⟩ := h
      refine cI (runV (n := 3) (As := [.int v1, .int v2, .int (mI u 225 v0)]) (rest := []) F hW (c_X6_isTaken F.2.2.2 G v0 v1 v2 (mI u 225 v0) u _ h) hob (ci := 7) rfl q_389 q_390 q_391 q_5 q_392 rfl (by decide +kernel) ⟨Nat.le_of_ble_eq_true rfl, Nat.le_of_ble_eq_true rfl⟩ dX6_takes_26 rfl hl.1 (Nat.le_of_ble_eq_true rfl) ⟨Nat.zero_le _, Nat.zero_le _⟩) hW (fun r6 u5 h9 H locs hW => ?_)
      replace h := h9
      clear h9
      refine lv_if_ne (tgt := 94) hx hb dX6_takes_29 (by decide) (fun hc7 => ?_) (fun hc7 => ?_)
      · have h := h.2 hc7
        exact retV F hr hW h dX6_takes_94
      · have h := h.1 hc7
        refine lv_aload_n hx hb dX6_takes_32 rfl (lv_at hl 0 rfl) ?_
        refine gf_7_18 F hW h.1 q_88 dX6_takes_33 ?_
        replace h := h.2
        obtain ⟨r8, er⟩ : ∃ z, z = mR u5 242 v0 := ⟨_, rfl⟩
        rw [← er]
        replace h := h r8 er
        clear er
        refine lv_aload_n hx hb dX6_takes_36 rfl (lv_at hl 0 rfl) ?_
        refine gf_7_17 F hW h.1 q_387 dX6_takes_37 ?_
        replace h := h.2
        refine lv_iload_n hx hb dX6_takes_40 rfl (lv_at hl 1 rfl) ?_
        obtain ⟨a9, ea, h⟩ := h
        subst ea
        refine rIast F hW h.1 h.2.1 dX6_takes_41 (fun H locs hW => ?_)
        replace h := h.2.2
        obtain ⟨u10, eu⟩ : ∃ z, z = setA u5 a9 ((mI u5 241 v0).toNatClampNeg) v1 := ⟨_, rfl⟩
        rw [← eu] at hW
        replace h := h u10 eu
        clear eu
        refine lv_aload_n hx hb dX6_takes_42 rfl (lv_at hl 0 rfl) ?_
        refine gf_7_19 F hW h.1 q_89 dX6_takes_43 ?_
        replace h := h.2
        obtain ⟨r11, er⟩ : ∃ z, z = mR u10 243 v0 := ⟨_, rfl⟩
        rw [← er]
        replace h := h r11 er
        clear er
        refine lv_aload_n hx hb dX6_takes_46 rfl (lv_at hl 0 rfl) ?_
        refine gf_7_17 F hW h.1 q_387 dX6_takes_47 ?_
        replace h := h.2
        refine lv_iload_n hx hb dX6_takes_50 rfl (lv_at hl 2 rfl) ?_
        obtain ⟨a12, ea, h⟩ := h
        subst ea
        refine rIast F hW h.1 h.2.1 dX6_takes_51 (fun H locs hW => ?_)
        replace h := h.2.2
        obtain ⟨u13, eu⟩ : ∃ z, z = setA u10 a12 ((mI u10 241 v0).toNatClampNeg) v2 := ⟨_, rfl⟩
        rw [← eu] at hW
        replace h := h u13 eu
        clear eu
        refine lv_aload_n hx hb dX6_takes_52 rfl (lv_at hl 0 rfl) ?_
        refine gf_7_20 F hW h.1 q_90 dX6_takes_53 ?_
        replace h := h.2
        obtain ⟨r14, er⟩ : ∃ z, z = mR u13 244 v0 := ⟨_, rfl⟩
        rw [← er]
        replace h := h r14 er
        clear er
        refine lv_aload_n hx hb dX6_takes_56 rfl (lv_at hl 0 rfl) ?_
        refine gf_7_17 F hW h.1 q_387 dX6_takes_57 ?_
        replace h := h.2
        refine lv_aload_n hx hb dX6_takes_60 rfl (lv_at hl 0 rfl) ?_
        refine gf_7_1 F hW h.1 q_388 dX6_takes_61 ?_
        replace h := h.2
        obtain ⟨a15, ea, h⟩ := h
        subst ea
        refine rIast F hW h.1 h.2.1 dX6_takes_64 (fun H locs hW => ?_)
        replace h := h.2.2
        obtain ⟨u16, eu⟩ : ∃ z, z = setA u13 a15 ((mI u13 241 v0).toNatClampNeg) (mI u13 225 v0) := ⟨_, rfl⟩
        rw [← eu] at hW
        replace h := h u16 eu
        clear eu
        refine lv_aload_n hx hb dX6_takes_65 rfl (lv_at hl 0 rfl) ?_
        refine gf_7_21 F hW h.1 q_91 dX6_takes_66 ?_
        replace h := h.2
        obtain ⟨r17, er⟩ : ∃ z, z = mR u16 245 v0 := ⟨_, rfl⟩
        rw [← er]
        replace h := h r17 er
        clear er
        refine lv_aload_n hx hb dX6_takes_69 rfl (lv_at hl 0 rfl) ?_
        refine gf_7_17 F hW h.1 q_387 dX6_takes_70 ?_
        replace h := h.2
        refine lv_aload_n hx hb dX6_takes_73 rfl (lv_at hl 0 rfl) ?_
        refine gf_7_1 F hW h.1 q_388 dX6_takes_74 ?_
        replace h := h.2
        refine lv_aload_n hx hb dX6_takes_77 rfl (lv_at hl 0 rfl) ?_
        refine lv_iload_n hx hb dX6_takes_78 rfl (lv_at hl 1 rfl) ?_
        obtain ⟨hob, h⟩ := h
        refine cI (runV (n := 1) (As := [.int v1]) (rest := [.int (mI u16 225 v0), .int (mI u16 241 v0), va_rf r17]) F hW (c_X6_middle F.2.2.2 G v0 v1 u16 _ h) hob (ci := 7) rfl q_171 q_172 q_173 q_5 q_174 rfl (by decide +kernel) ⟨Nat.le_of_ble_eq_true rfl, Nat.le_of_ble_eq_true rfl⟩ dX6_takes_79 rfl hl.1 (by simp only [List.map_cons, List.map_nil, va_rf_cat]; exact Nat.le_of_ble_eq_true rfl) ⟨Nat.zero_le _, Nat.zero_le _⟩) hW (fun r19 u18 h9 H locs hW => ?_)
        replace h := h9
        clear h9
        refine lv_iadd hx hb dX6_takes_82 ?_
        obtain ⟨a20, ea, h⟩ := h
        subst ea
        refine rIast F hW h.1 h.2.1 dX6_takes_83 (fun H locs hW => ?_)
        replace h := h.2.2
        obtain ⟨u21, eu⟩ : ∃ z, z = setA u18 a20 ((mI u16 241 v0).toNatClampNeg) ((mI u16 225 v0) + r19) := ⟨_, rfl⟩
        rw [← eu] at hW
        replace h := h u21 eu
        clear eu
        refine lv_aload_n hx hb dX6_takes_84 rfl (lv_at hl 0 rfl) ?_
        refine lv_dup hx hb dX6_takes_85 rfl ?_
        refine gf_7_17 F hW h.1 q_387 dX6_takes_86 ?_
        replace h := h.2
        refine lv_iconst (v := (1 : Int32)) hx hb dX6_takes_89 (by decide) ?_
        refine lv_iadd hx hb dX6_takes_90 ?_
        refine pf_7_17 F hW (x := ((mI u21 241 v0) + (1 : Int32))) h.1 q_387 dX6_takes_91 (fun H locs hW => ?_)
        replace h := h.2
        obtain ⟨u22, eu⟩ : ∃ z, z = setI u21 241 v0 ((mI u21 241 v0) + (1 : Int32)) := ⟨_, rfl⟩
        rw [← eu] at hW
        replace h := h u22 eu
        clear eu
        exact retV F hr hW h dX6_takes_94
set_option maxHeartbeats 4000000 in
set_option maxRecDepth 100000 in
theorem t_X6_goes_171 {p : Program} {l : Launch} {e : Env} {s : State} {m : MethodId} {below : List Frame} {meth : Method} {c : Code} {G : Ctx} (v0 : Nat) (v1 : Int32) (F : Fx p l s m ([.ref v0, .int v1]).toArray meth c cX6_goes 5 RX6 G) (hr : meth.sig.returnType = (some .boolean)) (K : Int32 → Mem → Prop) : ∀ (v2 : Int32) (s0 : Int32) (u : Mem) (H : Heap) (locs : List Loc) (ls : Array Slot), w_X6_goes_171 G v0 v1 K v2 s0 u → Wd G u s H locs → lv_has ls 5 [(0, .ref v0), (1, .int v1), (2, .int v2)] → W p l e { frames := 2, cells := 0, slots := 0, locals := 48 } s m ([.ref v0, .int v1]).toArray below meth c H locs 0 0 (MQ below (va_Qi K (fun u' t => Wp G u' t.heap) (Ab G)) ([.ref v0, .int v1]).toArray s 0 0 (Ab G)) (F0 m 171 ls [.int s0]) := by
  have hx := F.1.1
  have hb := F.1.2.1
  intro v2 s0 u H locs ls h hW hl
  unfold w_X6_goes_171 at h
  refine lv_istore (lv' := [(4, .int s0), (0, .ref v0), (1, .int v1), (2, .int v2)]) hx hb dX6_goes_171 hl (by decide) rfl (fun ls hl9 => ?_)
  replace hl := hl9
  clear hl9
  refine lv_iload hx hb dX6_goes_173 (lv_at hl 0 rfl) ?_
  refine lv_if_eq (tgt := 192) hx hb dX6_goes_175 (by decide) (fun hc94 => ?_) (fun hc94 => ?_)
  · have h := h.1 hc94
    refine lv_iload hx hb dX6_goes_192 (lv_at hl 0 rfl) ?_
    exact retZ F hr hW h.1 h.2 dX6_goes_194
  · have h := h.2 hc94
    refine lv_aload_n hx hb dX6_goes_178 rfl (lv_at hl 1 rfl) ?_
    refine gf_7_13 F hW h.1 q_84 dX6_goes_179 ?_
    replace h := h.2
    obtain ⟨r95, er⟩ : ∃ z, z = mR u 237 v0 := ⟨_, rfl⟩
    rw [← er]
    replace h := h r95 er
    clear er
    refine lv_iload_n hx hb dX6_goes_182 rfl (lv_at hl 2 rfl) ?_
    refine lv_iconst (v := (3 : Int32)) hx hb dX6_goes_183 (by decide) ?_
    obtain ⟨a96, ea, h⟩ := h
    subst ea
    refine rIast F hW h.1 h.2.1 dX6_goes_184 (fun H locs hW => ?_)
    replace h := h.2.2
    obtain ⟨u97, eu⟩ : ∃ z, z = setA u a96 (v1.toNatClampNeg) (3 : Int32) := ⟨_, rfl⟩
    rw [← eu] at hW
    replace h := h u97 eu
    clear eu
    refine lv_aload_n hx hb dX6_goes_185 rfl (lv_at hl 1 rfl) ?_
    refine gf_7_9 F hW h.1 q_81 dX6_goes_186 ?_
    replace h := h.2
    obtain ⟨r98, er⟩ : ∃ z, z = mR u97 233 v0 := ⟨_, rfl⟩
    rw [← er]
    replace h := h r98 er
    clear er
    refine lv_iload_n hx hb dX6_goes_189 rfl (lv_at hl 3 rfl) ?_
    refine lv_iconst (v := (0 : Int32)) hx hb dX6_goes_190 (by decide) ?_
    obtain ⟨a99, ea, h⟩ := h
    subst ea
    refine rZast F hW h.1 h.2.1 h.2.2.1 dX6_goes_191 (fun H locs hW => ?_)
    replace h := h.2.2.2
    obtain ⟨u100, eu⟩ : ∃ z, z = setA u97 a99 (v2.toNatClampNeg) (0 : Int32) := ⟨_, rfl⟩
    rw [← eu] at hW
    replace h := h u100 eu
    clear eu
    refine lv_iload hx hb dX6_goes_192 (lv_at hl 0 rfl) ?_
    exact retZ F hr hW h.1 h.2 dX6_goes_194
set_option maxHeartbeats 4000000 in
set_option maxRecDepth 100000 in
theorem t_X6_goes_150 {p : Program} {l : Launch} {e : Env} {s : State} {m : MethodId} {below : List Frame} {meth : Method} {c : Code} {G : Ctx} (v0 : Nat) (v1 : Int32) (F : Fx p l s m ([.ref v0, .int v1]).toArray meth c cX6_goes 5 RX6 G) (hr : meth.sig.returnType = (some .boolean)) (K : Int32 → Mem → Prop) : ∀ (v2 : Int32) (v3 : Int32) (u : Mem) (H : Heap) (locs : List Loc) (ls : Array Slot), w_X6_goes_150 G v0 v1 K v2 v3 u → Wd G u s H locs → lv_has ls 5 [(0, .ref v0), (1, .int v1), (2, .int v2), (3, .int v3)] → W p l e { frames := 2, cells := 0, slots := 0, locals := 48 } s m ([.ref v0, .int v1]).toArray below meth c H locs 0 0 (MQ below (va_Qi K (fun u' t => Wp G u' t.heap) (Ab G)) ([.ref v0, .int v1]).toArray s 0 0 (Ab G)) (F0 m 150 ls []) := by
  have hx := F.1.1
  have hb := F.1.2.1
  intro v2 v3 u H locs ls h hW hl
  unfold w_X6_goes_150 at h
  refine lv_aload_n hx hb dX6_goes_150 rfl (lv_at hl 0 rfl) ?_
  refine lv_iload_n hx hb dX6_goes_151 rfl (lv_at hl 3 rfl) ?_
  refine lv_iload_n hx hb dX6_goes_152 rfl (lv_at hl 1 rfl) ?_
  obtain ⟨hob, h⟩ := h
  refine cV (runV (n := 2) (As := [.int v3, .int v1]) (rest := []) F hW (c_X6_takes F.2.2.2 G v0 v3 v1 u _ h) hob (ci := 7) rfl q_383 q_384 q_385 q_5 q_386 rfl (by decide +kernel) ⟨Nat.le_of_ble_eq_true rfl, Nat.le_of_ble_eq_true rfl⟩ dX6_goes_153 rfl hl.1 (Nat.le_of_ble_eq_true rfl) ⟨Nat.zero_le _, Nat.zero_le _⟩) hW (fun u101 h9 H locs hW => ?_)
  replace h := h9
  clear h9
  refine lv_iload_n hx hb dX6_goes_156 rfl (lv_at hl 3 rfl) ?_
  refine lv_aload_n hx hb dX6_goes_157 rfl (lv_at hl 0 rfl) ?_
  refine gf_7_12 F hW h.1 q_83 dX6_goes_158 ?_
  replace h := h.2
  obtain ⟨r103, er⟩ : ∃ z, z = mR u101 236 v0 := ⟨_, rfl⟩
  rw [← er]
  replace h := h r103 er
  clear er
  refine lv_iload_n hx hb dX6_goes_161 rfl (lv_at hl 1 rfl) ?_
  obtain ⟨a104, ea, h⟩ := h
  subst ea
  refine rIald F hW h.1 h.2.1 dX6_goes_162 ?_
  replace h := h.2.2
  refine lv_icmp_ne (tgt := 170) hx hb dX6_goes_163 (by decide) (fun hc105 => ?_) (fun hc105 => ?_)
  · have h := h.2 hc105
    refine lv_iconst (v := (0 : Int32)) hx hb dX6_goes_170 (by decide) ?_
    exact t_X6_goes_171 v0 v1 F hr K v2 (0 : Int32) u101 _ _ _ h hW (lv_sub hl [0, 1, 2] rfl)
  · have h := h.1 hc105
    refine lv_iconst (v := (1 : Int32)) hx hb dX6_goes_166 (by decide) ?_
    refine lv_goto (tgt := 171) hx hb dX6_goes_167 (by decide) ?_
    exact t_X6_goes_171 v0 v1 F hr K v2 (1 : Int32) u101 _ _ _ h hW (lv_sub hl [0, 1, 2] rfl)
set_option maxHeartbeats 4000000 in
set_option maxRecDepth 100000 in
theorem t_X6_goes_88 {p : Program} {l : Launch} {e : Env} {s : State} {m : MethodId} {below : List Frame} {meth : Method} {c : Code} {G : Ctx} (v0 : Nat) (v1 : Int32) (F : Fx p l s m ([.ref v0, .int v1]).toArray meth c cX6_goes 5 RX6 G) (hr : meth.sig.returnType = (some .boolean)) (K : Int32 → Mem → Prop) : ∀ (v2 : Int32) (u : Mem) (H : Heap) (locs : List Loc) (ls : Array Slot), w_X6_goes_88 G v0 v1 K v2 u → Wd G u s H locs → lv_has ls 5 [(0, .ref v0), (1, .int v1), (2, .int v2)] → W p l e { frames := 2, cells := 0, slots := 0, locals := 48 } s m ([.ref v0, .int v1]).toArray below meth c H locs 0 0 (MQ below (va_Qi K (fun u' t => Wp G u' t.heap) (Ab G)) ([.ref v0, .int v1]).toArray s 0 0 (Ab G)) (F0 m 88 ls []) := by
  have hx := F.1.1
  have hb := F.1.2.1
  intro v2 u H locs ls h hW hl
  unfold w_X6_goes_88 at h
  refine lv_aload_n hx hb dX6_goes_88 rfl (lv_at hl 0 rfl) ?_
  refine gf_7_13 F hW h.1 q_84 dX6_goes_89 ?_
  replace h := h.2
  obtain ⟨r106, er⟩ : ∃ z, z = mR u 237 v0 := ⟨_, rfl⟩
  rw [← er]
  replace h := h r106 er
  clear er
  refine lv_iload_n hx hb dX6_goes_92 rfl (lv_at hl 1 rfl) ?_
  obtain ⟨a107, ea, h⟩ := h
  subst ea
  refine rIald F hW h.1 h.2.1 dX6_goes_93 ?_
  replace h := h.2.2
  refine lv_iconst (v := (2 : Int32)) hx hb dX6_goes_94 (by decide) ?_
  refine lv_icmp_eq (tgt := 100) hx hb dX6_goes_95 (by decide) (fun hc108 => ?_) (fun hc108 => ?_)
  · have h := h.1 hc108
    refine lv_aload_n hx hb dX6_goes_100 rfl (lv_at hl 0 rfl) ?_
    refine gf_7_7 F hW h.1 q_79 dX6_goes_101 ?_
    replace h := h.2
    obtain ⟨r109, er⟩ : ∃ z, z = mR u 231 v0 := ⟨_, rfl⟩
    rw [← er]
    replace h := h r109 er
    clear er
    refine lv_iload_n hx hb dX6_goes_104 rfl (lv_at hl 2 rfl) ?_
    obtain ⟨a110, ea, h⟩ := h
    subst ea
    refine rIald F hW h.1 h.2.1 dX6_goes_105 ?_
    replace h := h.2.2
    refine lv_istore_n (lv' := [(3, .int (mA u a110 v2.toNatClampNeg)), (0, .ref v0), (1, .int v1), (2, .int v2)]) hx hb dX6_goes_106 rfl hl (by decide) rfl (fun ls hl9 => ?_)
    replace hl := hl9
    clear hl9
    refine lv_aload_n hx hb dX6_goes_107 rfl (lv_at hl 1 rfl) ?_
    refine gf_7_3 F hW h.1 q_74 dX6_goes_108 ?_
    replace h := h.2
    obtain ⟨r111, er⟩ : ∃ z, z = mR u 227 v0 := ⟨_, rfl⟩
    rw [← er]
    replace h := h r111 er
    clear er
    refine lv_iload_n hx hb dX6_goes_111 rfl (lv_at hl 0 rfl) ?_
    obtain ⟨a112, ea, h⟩ := h
    subst ea
    refine rIald F hW h.1 h.2.1 dX6_goes_112 ?_
    replace h := h.2.2
    refine lv_aload_n hx hb dX6_goes_113 rfl (lv_at hl 1 rfl) ?_
    refine gf_7_4 F hW h.1 q_75 dX6_goes_114 ?_
    replace h := h.2
    obtain ⟨r113, er⟩ : ∃ z, z = mR u 228 v0 := ⟨_, rfl⟩
    rw [← er]
    replace h := h r113 er
    clear er
    refine lv_iload_n hx hb dX6_goes_117 rfl (lv_at hl 0 rfl) ?_
    obtain ⟨a114, ea, h⟩ := h
    subst ea
    refine rIald F hW h.1 h.2.1 dX6_goes_118 ?_
    replace h := h.2.2
    refine lv_icmp_lt (tgt := 140) hx hb dX6_goes_119 (by decide) (fun hc115 => ?_) (fun hc115 => ?_)
    · have h := h.1 hc115
      refine lv_aload_n hx hb dX6_goes_140 rfl (lv_at hl 1 rfl) ?_
      refine gf_7_15 F hW h.1 q_86 dX6_goes_141 ?_
      replace h := h.2
      obtain ⟨r116, er⟩ : ∃ z, z = mR u 239 v0 := ⟨_, rfl⟩
      rw [← er]
      replace h := h r116 er
      clear er
      refine lv_iload_n hx hb dX6_goes_144 rfl (lv_at hl 2 rfl) ?_
      refine lv_dup2_11 hx hb dX6_goes_145 rfl (va_rf_cat _) ?_
      obtain ⟨a117, ea, h⟩ := h
      subst ea
      refine rIald F hW h.1 h.2.1 dX6_goes_146 ?_
      replace h := h.2.2
      refine lv_iconst (v := (1 : Int32)) hx hb dX6_goes_147 (by decide) ?_
      refine lv_iadd hx hb dX6_goes_148 ?_
      refine rIast F hW h.1 h.2.1 dX6_goes_149 (fun H locs hW => ?_)
      replace h := h.2.2
      obtain ⟨u118, eu⟩ : ∃ z, z = setA u a117 (v1.toNatClampNeg) ((mA u a117 v1.toNatClampNeg) + (1 : Int32)) := ⟨_, rfl⟩
      rw [← eu] at hW
      replace h := h u118 eu
      clear eu
      exact t_X6_goes_150 v0 v1 F hr K v2 (mA u a110 v2.toNatClampNeg) u118 _ _ _ h hW (lv_sub hl [1, 2, 3, 0] rfl)
    · have h := h.2 hc115
      refine lv_aload_n hx hb dX6_goes_122 rfl (lv_at hl 1 rfl) ?_
      refine gf_7_3 F hW h.1 q_74 dX6_goes_123 ?_
      replace h := h.2
      obtain ⟨r119, er⟩ : ∃ z, z = mR u 227 v0 := ⟨_, rfl⟩
      rw [← er]
      replace h := h r119 er
      clear er
      refine lv_iload_n hx hb dX6_goes_126 rfl (lv_at hl 0 rfl) ?_
      refine lv_dup2_11 hx hb dX6_goes_127 rfl (va_rf_cat _) ?_
      obtain ⟨a120, ea, h⟩ := h
      subst ea
      refine rIald F hW h.1 h.2.1 dX6_goes_128 ?_
      replace h := h.2.2
      refine lv_aload_n hx hb dX6_goes_129 rfl (lv_at hl 1 rfl) ?_
      refine gf_7_4 F hW h.1 q_75 dX6_goes_130 ?_
      replace h := h.2
      obtain ⟨r121, er⟩ : ∃ z, z = mR u 228 v0 := ⟨_, rfl⟩
      rw [← er]
      replace h := h r121 er
      clear er
      refine lv_iload_n hx hb dX6_goes_133 rfl (lv_at hl 0 rfl) ?_
      obtain ⟨a122, ea, h⟩ := h
      subst ea
      refine rIald F hW h.1 h.2.1 dX6_goes_134 ?_
      replace h := h.2.2
      refine lv_isub hx hb dX6_goes_135 ?_
      refine rIast F hW h.1 h.2.1 dX6_goes_136 (fun H locs hW => ?_)
      replace h := h.2.2
      obtain ⟨u123, eu⟩ : ∃ z, z = setA u a120 ((mA u a110 v2.toNatClampNeg).toNatClampNeg) ((mA u a120 (mA u a110 v2.toNatClampNeg).toNatClampNeg) - (mA u a122 (mA u a110 v2.toNatClampNeg).toNatClampNeg)) := ⟨_, rfl⟩
      rw [← eu] at hW
      replace h := h u123 eu
      clear eu
      refine lv_goto (tgt := 150) hx hb dX6_goes_137 (by decide) ?_
      exact t_X6_goes_150 v0 v1 F hr K v2 (mA u a110 v2.toNatClampNeg) u123 _ _ _ h hW (lv_sub hl [1, 2, 3, 0] rfl)
  · have h := h.2 hc108
    refine lv_iconst (v := (0 : Int32)) hx hb dX6_goes_98 (by decide) ?_
    exact retZ F hr hW h.1 h.2 dX6_goes_99
set_option maxHeartbeats 4000000 in
set_option maxRecDepth 100000 in
theorem t_X6_goes_87 {p : Program} {l : Launch} {e : Env} {s : State} {m : MethodId} {below : List Frame} {meth : Method} {c : Code} {G : Ctx} (v0 : Nat) (v1 : Int32) (F : Fx p l s m ([.ref v0, .int v1]).toArray meth c cX6_goes 5 RX6 G) (hr : meth.sig.returnType = (some .boolean)) (K : Int32 → Mem → Prop) : ∀ (v2 : Int32) (s0 : Int32) (s1 : Int32) (s2 : Option Nat) (u : Mem) (H : Heap) (locs : List Loc) (ls : Array Slot), w_X6_goes_87 G v0 v1 K v2 s0 s1 s2 u → Wd G u s H locs → lv_has ls 5 [(0, .ref v0), (1, .int v1), (2, .int v2)] → W p l e { frames := 2, cells := 0, slots := 0, locals := 48 } s m ([.ref v0, .int v1]).toArray below meth c H locs 0 0 (MQ below (va_Qi K (fun u' t => Wp G u' t.heap) (Ab G)) ([.ref v0, .int v1]).toArray s 0 0 (Ab G)) (F0 m 87 ls [.int s0, .int s1, va_rf s2]) := by
  have hx := F.1.1
  have hb := F.1.2.1
  intro v2 s0 s1 s2 u H locs ls h hW hl
  unfold w_X6_goes_87 at h
  obtain ⟨a124, ea, h⟩ := h
  subst ea
  refine rIast F hW h.1 h.2.1 dX6_goes_87 (fun H locs hW => ?_)
  replace h := h.2.2
  obtain ⟨u125, eu⟩ : ∃ z, z = setA u a124 (s1.toNatClampNeg) s0 := ⟨_, rfl⟩
  rw [← eu] at hW
  replace h := h u125 eu
  clear eu
  exact t_X6_goes_88 v0 v1 F hr K v2 u125 _ _ _ h hW (lv_sub hl [0, 1, 2] rfl)
set_option maxHeartbeats 4000000 in
set_option maxRecDepth 100000 in
theorem c_X6_goes {l : Launch} (hst : l.stackTraces = false) (G : Ctx) (v0 : Nat) (v1 : Int32) (u : Mem) (K : Int32 → Mem → Prop) (h : w_X6_goes G v0 v1 u K) : CtI l yX6_goes (.code yX6_goes cX6_goes 5 (some .boolean)) 2 48 0 0 G [.ref v0, .int v1] u K := by
  refine entM (by first | decide | decide +kernel) hst (by first | decide | exact Nat.le_of_ble_eq_true rfl) (fun p e s m below meth c ls F hr hnm hW hl => ?_)
  have F : Fx p l s m ([.ref v0, .int v1]).toArray meth c cX6_goes 5 RX6 G := F
  have hnm : meth.name = "goes" := hnm
  have hl : lv_has ls 5 [(0, .ref v0), (1, .int v1)] := hl
  have hx := F.1.1
  have hb := F.1.2.1
  unfold w_X6_goes at h
  refine lv_aload_n hx hb dX6_goes_0 rfl (lv_at hl 0 rfl) ?_
  refine gf_7_14 F hW h.1 q_85 dX6_goes_1 ?_
  replace h := h.2
  obtain ⟨r1, er⟩ : ∃ z, z = mR u 238 v0 := ⟨_, rfl⟩
  rw [← er]
  replace h := h r1 er
  clear er
  refine lv_iload_n hx hb dX6_goes_4 rfl (lv_at hl 1 rfl) ?_
  obtain ⟨a2, ea, h⟩ := h
  subst ea
  refine rIald F hW h.1 h.2.1 dX6_goes_5 ?_
  replace h := h.2.2
  refine lv_istore_n (lv' := [(2, .int (mA u a2 v1.toNatClampNeg)), (0, .ref v0), (1, .int v1)]) hx hb dX6_goes_6 rfl hl (by decide) rfl (fun ls hl9 => ?_)
  replace hl := hl9
  clear hl9
  refine lv_aload_n hx hb dX6_goes_7 rfl (lv_at hl 1 rfl) ?_
  refine gf_7_13 F hW h.1 q_84 dX6_goes_8 ?_
  replace h := h.2
  obtain ⟨r3, er⟩ : ∃ z, z = mR u 237 v0 := ⟨_, rfl⟩
  rw [← er]
  replace h := h r3 er
  clear er
  refine lv_iload_n hx hb dX6_goes_11 rfl (lv_at hl 2 rfl) ?_
  obtain ⟨a4, ea, h⟩ := h
  subst ea
  refine rIald F hW h.1 h.2.1 dX6_goes_12 ?_
  replace h := h.2.2
  refine lv_iconst (v := (2 : Int32)) hx hb dX6_goes_13 (by decide) ?_
  refine lv_icmp_ne (tgt := 41) hx hb dX6_goes_14 (by decide) (fun hc5 => ?_) (fun hc5 => ?_)
  · have h := h.2 hc5
    refine lv_aload_n hx hb dX6_goes_41 rfl (lv_at hl 1 rfl) ?_
    refine gf_7_7 F hW h.1 q_79 dX6_goes_42 ?_
    replace h := h.2
    obtain ⟨r6, er⟩ : ∃ z, z = mR u 231 v0 := ⟨_, rfl⟩
    rw [← er]
    replace h := h r6 er
    clear er
    refine lv_iload_n hx hb dX6_goes_45 rfl (lv_at hl 0 rfl) ?_
    refine lv_aload_n hx hb dX6_goes_46 rfl (lv_at hl 1 rfl) ?_
    refine gf_7_7 F hW h.1 q_79 dX6_goes_47 ?_
    replace h := h.2
    obtain ⟨r7, er⟩ : ∃ z, z = mR u 231 v0 := ⟨_, rfl⟩
    rw [← er]
    replace h := h r7 er
    clear er
    refine lv_iload_n hx hb dX6_goes_50 rfl (lv_at hl 0 rfl) ?_
    obtain ⟨a8, ea, h⟩ := h
    subst ea
    refine rIald F hW h.1 h.2.1 dX6_goes_51 ?_
    replace h := h.2.2
    refine lv_aload_n hx hb dX6_goes_52 rfl (lv_at hl 1 rfl) ?_
    refine gf_7_11 F hW h.1 q_82 dX6_goes_53 ?_
    replace h := h.2
    obtain ⟨r9, er⟩ : ∃ z, z = mR u 235 v0 := ⟨_, rfl⟩
    rw [← er]
    replace h := h r9 er
    clear er
    refine lv_iload_n hx hb dX6_goes_56 rfl (lv_at hl 2 rfl) ?_
    obtain ⟨a10, ea, h⟩ := h
    subst ea
    refine rIald F hW h.1 h.2.1 dX6_goes_57 ?_
    replace h := h.2.2
    refine cI (runS (n := 2) (As := [.int (mA u a8 (mA u a2 v1.toNatClampNeg).toNatClampNeg), .int (mA u a10 v1.toNatClampNeg)]) (rest := [.int (mA u a2 v1.toNatClampNeg), va_rf r6]) F hW (c_X6_next F.2.2.2 G (mA u a8 (mA u a2 v1.toNatClampNeg).toNatClampNeg) (mA u a10 v1.toNatClampNeg) u _ h) q_380 q_381 q_5 q_382 (by decide +kernel) ⟨Nat.le_of_ble_eq_true rfl, Nat.le_of_ble_eq_true rfl⟩ dX6_goes_58 rfl hl.1 (by simp only [List.map_cons, List.map_nil, va_rf_cat]; exact Nat.le_of_ble_eq_true rfl) ⟨Nat.zero_le _, Nat.zero_le _⟩) hW (fun r12 u11 h9 H locs hW => ?_)
    replace h := h9
    clear h9
    obtain ⟨a13, ea, h⟩ := h
    subst ea
    refine rIast F hW h.1 h.2.1 dX6_goes_61 (fun H locs hW => ?_)
    replace h := h.2.2
    obtain ⟨u14, eu⟩ : ∃ z, z = setA u11 a13 ((mA u a2 v1.toNatClampNeg).toNatClampNeg) r12 := ⟨_, rfl⟩
    rw [← eu] at hW
    replace h := h u14 eu
    clear eu
    refine lv_aload_n hx hb dX6_goes_62 rfl (lv_at hl 1 rfl) ?_
    refine gf_7_13 F hW h.1 q_84 dX6_goes_63 ?_
    replace h := h.2
    obtain ⟨r15, er⟩ : ∃ z, z = mR u14 237 v0 := ⟨_, rfl⟩
    rw [← er]
    replace h := h r15 er
    clear er
    refine lv_iload_n hx hb dX6_goes_66 rfl (lv_at hl 2 rfl) ?_
    refine lv_aload_n hx hb dX6_goes_67 rfl (lv_at hl 1 rfl) ?_
    refine gf_7_7 F hW h.1 q_79 dX6_goes_68 ?_
    replace h := h.2
    obtain ⟨r16, er⟩ : ∃ z, z = mR u14 231 v0 := ⟨_, rfl⟩
    rw [← er]
    replace h := h r16 er
    clear er
    refine lv_iload_n hx hb dX6_goes_71 rfl (lv_at hl 0 rfl) ?_
    obtain ⟨a17, ea, h⟩ := h
    subst ea
    refine rIald F hW h.1 h.2.1 dX6_goes_72 ?_
    replace h := h.2.2
    refine lv_aload_n hx hb dX6_goes_73 rfl (lv_at hl 1 rfl) ?_
    refine gf_7_11 F hW h.1 q_82 dX6_goes_74 ?_
    replace h := h.2
    obtain ⟨r18, er⟩ : ∃ z, z = mR u14 235 v0 := ⟨_, rfl⟩
    rw [← er]
    replace h := h r18 er
    clear er
    refine lv_iload_n hx hb dX6_goes_77 rfl (lv_at hl 2 rfl) ?_
    obtain ⟨a19, ea, h⟩ := h
    subst ea
    refine rIald F hW h.1 h.2.1 dX6_goes_78 ?_
    replace h := h.2.2
    refine lv_icmp_ne (tgt := 86) hx hb dX6_goes_79 (by decide) (fun hc20 => ?_) (fun hc20 => ?_)
    · have h := h.2 hc20
      refine lv_iconst (v := (1 : Int32)) hx hb dX6_goes_86 (by decide) ?_
      exact t_X6_goes_87 v0 v1 F hr K (mA u a2 v1.toNatClampNeg) (1 : Int32) v1 r15 u14 _ _ _ h hW (lv_sub hl [1, 2, 0] rfl)
    · have h := h.1 hc20
      refine lv_iconst (v := (2 : Int32)) hx hb dX6_goes_82 (by decide) ?_
      refine lv_goto (tgt := 87) hx hb dX6_goes_83 (by decide) ?_
      exact t_X6_goes_87 v0 v1 F hr K (mA u a2 v1.toNatClampNeg) (2 : Int32) v1 r15 u14 _ _ _ h hW (lv_sub hl [1, 2, 0] rfl)
  · have h := h.1 hc5
    refine lv_aload_n hx hb dX6_goes_17 rfl (lv_at hl 1 rfl) ?_
    refine gf_7_7 F hW h.1 q_79 dX6_goes_18 ?_
    replace h := h.2
    obtain ⟨r21, er⟩ : ∃ z, z = mR u 231 v0 := ⟨_, rfl⟩
    rw [← er]
    replace h := h r21 er
    clear er
    refine lv_iload_n hx hb dX6_goes_21 rfl (lv_at hl 0 rfl) ?_
    refine lv_aload_n hx hb dX6_goes_22 rfl (lv_at hl 1 rfl) ?_
    refine gf_7_7 F hW h.1 q_79 dX6_goes_23 ?_
    replace h := h.2
    obtain ⟨r22, er⟩ : ∃ z, z = mR u 231 v0 := ⟨_, rfl⟩
    rw [← er]
    replace h := h r22 er
    clear er
    refine lv_iload_n hx hb dX6_goes_26 rfl (lv_at hl 0 rfl) ?_
    obtain ⟨a23, ea, h⟩ := h
    subst ea
    refine rIald F hW h.1 h.2.1 dX6_goes_27 ?_
    replace h := h.2.2
    refine lv_aload_n hx hb dX6_goes_28 rfl (lv_at hl 1 rfl) ?_
    refine gf_7_12 F hW h.1 q_83 dX6_goes_29 ?_
    replace h := h.2
    obtain ⟨r24, er⟩ : ∃ z, z = mR u 236 v0 := ⟨_, rfl⟩
    rw [← er]
    replace h := h r24 er
    clear er
    refine lv_iload_n hx hb dX6_goes_32 rfl (lv_at hl 2 rfl) ?_
    obtain ⟨a25, ea, h⟩ := h
    subst ea
    refine rIald F hW h.1 h.2.1 dX6_goes_33 ?_
    replace h := h.2.2
    refine cI (runS (n := 2) (As := [.int (mA u a23 (mA u a2 v1.toNatClampNeg).toNatClampNeg), .int (mA u a25 v1.toNatClampNeg)]) (rest := [.int (mA u a2 v1.toNatClampNeg), va_rf r21]) F hW (c_X6_next F.2.2.2 G (mA u a23 (mA u a2 v1.toNatClampNeg).toNatClampNeg) (mA u a25 v1.toNatClampNeg) u _ h) q_380 q_381 q_5 q_382 (by decide +kernel) ⟨Nat.le_of_ble_eq_true rfl, Nat.le_of_ble_eq_true rfl⟩ dX6_goes_34 rfl hl.1 (by simp only [List.map_cons, List.map_nil, va_rf_cat]; exact Nat.le_of_ble_eq_true rfl) ⟨Nat.zero_le _, Nat.zero_le _⟩) hW (fun r27 u26 h9 H locs hW => ?_)
    replace h := h9
    clear h9
    obtain ⟨a28, ea, h⟩ := h
    subst ea
    refine rIast F hW h.1 h.2.1 dX6_goes_37 (fun H locs hW => ?_)
    replace h := h.2.2
    obtain ⟨u29, eu⟩ : ∃ z, z = setA u26 a28 ((mA u a2 v1.toNatClampNeg).toNatClampNeg) r27 := ⟨_, rfl⟩
    rw [← eu] at hW
    replace h := h u29 eu
    clear eu
    refine lv_goto (tgt := 88) hx hb dX6_goes_38 (by decide) ?_
    exact t_X6_goes_88 v0 v1 F hr K (mA u a2 v1.toNatClampNeg) u29 _ _ _ h hW (lv_sub hl [1, 2, 0] rfl)
set_option maxHeartbeats 4000000 in
set_option maxRecDepth 100000 in
theorem t_X6_init_186 {p : Program} {l : Launch} {e : Env} {s : State} {m : MethodId} {below : List Frame} {meth : Method} {c : Code} {G : Ctx} (v0 : Nat) (MC MS : Nat) (F : Fx p l s m ([.ref v0]).toArray meth c cX6_init 2 RX6 G) (hr : meth.sig.returnType = none) (hnm : meth.name = "<init>") (K : Mem → Prop) : ∀ (n : Nat), ∀ (v1 : Int32) (mc ms : Nat) (u : Mem) (H : Heap) (locs : List Loc) (cells slots : Nat) (ls : Array Slot), w_X6_init_186 G v0 K n v1 mc ms u → Wd G u s H locs → lv_has ls 2 [(0, .ref v0), (1, .int v1)] → cells + mc = MC → slots + ms = MS → W p l e { frames := 1, cells := MC, slots := MS, locals := 30 } s m ([.ref v0]).toArray below meth c H locs cells slots (MQ below (va_Qv K (fun u' t => Wp G u' t.heap) (Ab G)) ([.ref v0]).toArray s MC MS (Ab G)) (F0 m 186 ls []) := by
  have hx := F.1.1
  have hb := F.1.2.1
  intro n
  induction n with
  | zero =>
    intro v1 mc ms u H locs cells slots ls h hW hl hbc hbs
    exact h.elim
  | succ n hJ186 =>
    intro v1 mc ms u H locs cells slots ls h hW hl hbc hbs
    have h : b_X6_init_186 G v0 K (w_X6_init_186 G v0 K n) v1 mc ms u := h
    revert h
    generalize w_X6_init_186 G v0 K n = J186 at hJ186 ⊢
    intro h
    unfold b_X6_init_186 at h
    refine lv_iload_n hx hb dX6_init_186 rfl (lv_at hl 1 rfl) ?_
    refine lv_iconst (v := (4 : Int32)) hx hb dX6_init_187 (by decide) ?_
    refine lv_icmp_ge (tgt := 205) hx hb dX6_init_188 (by decide) (fun hc76 => ?_) (fun hc76 => ?_)
    · have h := h.1 hc76
      refine W.widen (k := MC) (n := MS) (Nat.le.intro hbc) (Nat.le.intro hbs) ?_
      exact retV F hr hW h dX6_init_205
    · have h := h.2 hc76
      refine lv_aload_n hx hb dX6_init_191 rfl (lv_at hl 0 rfl) ?_
      refine gf_7_8 F hW h.1 q_80 dX6_init_192 ?_
      replace h := h.2
      obtain ⟨r77, er⟩ : ∃ z, z = mR u 232 v0 := ⟨_, rfl⟩
      rw [← er]
      replace h := h r77 er
      clear er
      refine lv_iload_n hx hb dX6_init_195 rfl (lv_at hl 1 rfl) ?_
      refine lv_bipush (v := (50 : Int32)) hx hb dX6_init_196 (by decide) ?_
      obtain ⟨a78, ea, h⟩ := h
      subst ea
      refine rIast F hW h.1 h.2.1 dX6_init_198 (fun H locs hW => ?_)
      replace h := h.2.2
      obtain ⟨u79, eu⟩ : ∃ z, z = setA u a78 (v1.toNatClampNeg) (50 : Int32) := ⟨_, rfl⟩
      rw [← eu] at hW
      replace h := h u79 eu
      clear eu
      refine lv_iinc (v := (v1 + 1)) (lv' := [(1, .int (v1 + 1)), (0, .ref v0)]) hx hb dX6_init_199 hl (k := 1) rfl rfl (by decide) rfl (fun ls hl9 => ?_)
      replace hl := hl9
      clear hl9
      refine lv_goto (tgt := 186) hx hb dX6_init_202 (by decide) ?_
      exact hJ186 (v1 + 1) mc ms u79 _ _ _ _ _ h hW (lv_sub hl [1, 0] rfl) hbc hbs
set_option maxHeartbeats 4000000 in
set_option maxRecDepth 100000 in
theorem t_X6_init_164 {p : Program} {l : Launch} {e : Env} {s : State} {m : MethodId} {below : List Frame} {meth : Method} {c : Code} {G : Ctx} (v0 : Nat) (MC MS : Nat) (F : Fx p l s m ([.ref v0]).toArray meth c cX6_init 2 RX6 G) (hr : meth.sig.returnType = none) (hnm : meth.name = "<init>") (K : Mem → Prop) : ∀ (n : Nat), ∀ (v1 : Int32) (mc ms : Nat) (u : Mem) (H : Heap) (locs : List Loc) (cells slots : Nat) (ls : Array Slot), w_X6_init_164 G v0 K n v1 mc ms u → Wd G u s H locs → lv_has ls 2 [(0, .ref v0), (1, .int v1)] → cells + mc = MC → slots + ms = MS → W p l e { frames := 1, cells := MC, slots := MS, locals := 30 } s m ([.ref v0]).toArray below meth c H locs cells slots (MQ below (va_Qv K (fun u' t => Wp G u' t.heap) (Ab G)) ([.ref v0]).toArray s MC MS (Ab G)) (F0 m 164 ls []) := by
  have hx := F.1.1
  have hb := F.1.2.1
  intro n
  induction n with
  | zero =>
    intro v1 mc ms u H locs cells slots ls h hW hl hbc hbs
    exact h.elim
  | succ n hJ164 =>
    intro v1 mc ms u H locs cells slots ls h hW hl hbc hbs
    have h : b_X6_init_164 G v0 K (w_X6_init_164 G v0 K n) v1 mc ms u := h
    revert h
    generalize w_X6_init_164 G v0 K n = J164 at hJ164 ⊢
    intro h
    unfold b_X6_init_164 at h
    refine lv_iload_n hx hb dX6_init_164 rfl (lv_at hl 1 rfl) ?_
    refine lv_bipush (v := (24 : Int32)) hx hb dX6_init_165 (by decide) ?_
    refine lv_icmp_ge (tgt := 184) hx hb dX6_init_167 (by decide) (fun hc80 => ?_) (fun hc80 => ?_)
    · have h := h.1 hc80
      refine lv_iconst (v := (0 : Int32)) hx hb dX6_init_184 (by decide) ?_
      refine lv_istore_n (lv' := [(1, .int (0 : Int32)), (0, .ref v0)]) hx hb dX6_init_185 rfl hl (by decide) rfl (fun ls hl9 => ?_)
      replace hl := hl9
      clear hl9
      obtain ⟨n, h⟩ := h
      exact t_X6_init_186 v0 MC MS F hr hnm K n (0 : Int32) mc ms u _ _ _ _ _ h hW (lv_sub hl [1, 0] rfl) hbc hbs
    · have h := h.2 hc80
      refine lv_aload_n hx hb dX6_init_170 rfl (lv_at hl 0 rfl) ?_
      refine gf_7_6 F hW h.1 q_78 dX6_init_171 ?_
      replace h := h.2
      obtain ⟨r81, er⟩ : ∃ z, z = mR u 230 v0 := ⟨_, rfl⟩
      rw [← er]
      replace h := h r81 er
      clear er
      refine lv_iload_n hx hb dX6_init_174 rfl (lv_at hl 1 rfl) ?_
      refine lv_bipush (v := (7 : Int32)) hx hb dX6_init_175 (by decide) ?_
      obtain ⟨a82, ea, h⟩ := h
      subst ea
      refine rIast F hW h.1 h.2.1 dX6_init_177 (fun H locs hW => ?_)
      replace h := h.2.2
      obtain ⟨u83, eu⟩ : ∃ z, z = setA u a82 (v1.toNatClampNeg) (7 : Int32) := ⟨_, rfl⟩
      rw [← eu] at hW
      replace h := h u83 eu
      clear eu
      refine lv_iinc (v := (v1 + 1)) (lv' := [(1, .int (v1 + 1)), (0, .ref v0)]) hx hb dX6_init_178 hl (k := 1) rfl rfl (by decide) rfl (fun ls hl9 => ?_)
      replace hl := hl9
      clear hl9
      refine lv_goto (tgt := 164) hx hb dX6_init_181 (by decide) ?_
      exact hJ164 (v1 + 1) mc ms u83 _ _ _ _ _ h hW (lv_sub hl [1, 0] rfl) hbc hbs
set_option maxHeartbeats 4000000 in
set_option maxRecDepth 100000 in
theorem t_X6_init_143 {p : Program} {l : Launch} {e : Env} {s : State} {m : MethodId} {below : List Frame} {meth : Method} {c : Code} {G : Ctx} (v0 : Nat) (MC MS : Nat) (F : Fx p l s m ([.ref v0]).toArray meth c cX6_init 2 RX6 G) (hr : meth.sig.returnType = none) (hnm : meth.name = "<init>") (K : Mem → Prop) : ∀ (n : Nat), ∀ (v1 : Int32) (mc ms : Nat) (u : Mem) (H : Heap) (locs : List Loc) (cells slots : Nat) (ls : Array Slot), w_X6_init_143 G v0 K n v1 mc ms u → Wd G u s H locs → lv_has ls 2 [(0, .ref v0), (1, .int v1)] → cells + mc = MC → slots + ms = MS → W p l e { frames := 1, cells := MC, slots := MS, locals := 30 } s m ([.ref v0]).toArray below meth c H locs cells slots (MQ below (va_Qv K (fun u' t => Wp G u' t.heap) (Ab G)) ([.ref v0]).toArray s MC MS (Ab G)) (F0 m 143 ls []) := by
  have hx := F.1.1
  have hb := F.1.2.1
  intro n
  induction n with
  | zero =>
    intro v1 mc ms u H locs cells slots ls h hW hl hbc hbs
    exact h.elim
  | succ n hJ143 =>
    intro v1 mc ms u H locs cells slots ls h hW hl hbc hbs
    have h : b_X6_init_143 G v0 K (w_X6_init_143 G v0 K n) v1 mc ms u := h
    revert h
    generalize w_X6_init_143 G v0 K n = J143 at hJ143 ⊢
    intro h
    unfold b_X6_init_143 at h
    refine lv_iload_n hx hb dX6_init_143 rfl (lv_at hl 1 rfl) ?_
    refine lv_bipush (v := (8 : Int32)) hx hb dX6_init_144 (by decide) ?_
    refine lv_icmp_ge (tgt := 162) hx hb dX6_init_146 (by decide) (fun hc84 => ?_) (fun hc84 => ?_)
    · have h := h.1 hc84
      refine lv_iconst (v := (0 : Int32)) hx hb dX6_init_162 (by decide) ?_
      refine lv_istore_n (lv' := [(1, .int (0 : Int32)), (0, .ref v0)]) hx hb dX6_init_163 rfl hl (by decide) rfl (fun ls hl9 => ?_)
      replace hl := hl9
      clear hl9
      obtain ⟨n, h⟩ := h
      exact t_X6_init_164 v0 MC MS F hr hnm K n (0 : Int32) mc ms u _ _ _ _ _ h hW (lv_sub hl [1, 0] rfl) hbc hbs
    · have h := h.2 hc84
      refine lv_aload_n hx hb dX6_init_149 rfl (lv_at hl 0 rfl) ?_
      refine gf_7_4 F hW h.1 q_75 dX6_init_150 ?_
      replace h := h.2
      obtain ⟨r85, er⟩ : ∃ z, z = mR u 228 v0 := ⟨_, rfl⟩
      rw [← er]
      replace h := h r85 er
      clear er
      refine lv_iload_n hx hb dX6_init_153 rfl (lv_at hl 1 rfl) ?_
      refine lv_iconst (v := (1 : Int32)) hx hb dX6_init_154 (by decide) ?_
      obtain ⟨a86, ea, h⟩ := h
      subst ea
      refine rIast F hW h.1 h.2.1 dX6_init_155 (fun H locs hW => ?_)
      replace h := h.2.2
      obtain ⟨u87, eu⟩ : ∃ z, z = setA u a86 (v1.toNatClampNeg) (1 : Int32) := ⟨_, rfl⟩
      rw [← eu] at hW
      replace h := h u87 eu
      clear eu
      refine lv_iinc (v := (v1 + 1)) (lv' := [(1, .int (v1 + 1)), (0, .ref v0)]) hx hb dX6_init_156 hl (k := 1) rfl rfl (by decide) rfl (fun ls hl9 => ?_)
      replace hl := hl9
      clear hl9
      refine lv_goto (tgt := 143) hx hb dX6_init_159 (by decide) ?_
      exact hJ143 (v1 + 1) mc ms u87 _ _ _ _ _ h hW (lv_sub hl [1, 0] rfl) hbc hbs
set_option maxHeartbeats 4000000 in
set_option maxRecDepth 100000 in
theorem c_X6_init {l : Launch} (hst : l.stackTraces = false) (G : Ctx) (v0 : Nat) (MC MS : Nat) (u : Mem) (K : Mem → Prop) (h : w_X6_init G v0 MC MS u K) : CtV l yX6_init (.code yX6_init cX6_init 2 none) 1 30 MC MS G [.ref v0] u K := by
  refine entM (by first | decide | decide +kernel) hst (by first | decide | exact Nat.le_of_ble_eq_true rfl) (fun p e s m below meth c ls F hr hnm hW hl => ?_)
  have F : Fx p l s m ([.ref v0]).toArray meth c cX6_init 2 RX6 G := F
  have hnm : meth.name = "<init>" := hnm
  have hl : lv_has ls 2 [(0, .ref v0)] := hl
  have hx := F.1.1
  have hb := F.1.2.1
  have hbc : 0 + MC = MC := Nat.zero_add _
  have hbs : 0 + MS = MS := Nat.zero_add _
  unfold w_X6_init at h
  refine lv_aload_n hx hb dX6_init_0 rfl (lv_at hl 0 rfl) ?_
  refine W.objInit hx hb F.1.2.2.2.1 (F.1.2.2.2.2 _ q_73) (F.1.2.2.2.2 _ q_11) (F.1.2.2.2.2 _ q_12) rfl (by rw [F.1.2.2.1]; exact hl.1) rfl dX6_init_1 (Nat.le_of_ble_eq_true rfl) (Nat.le_of_ble_eq_true rfl) ?_
  refine W.eq (g2 := F0 m 4 ls []) rfl ?_
  refine lv_aload_n hx hb dX6_init_4 rfl (lv_at hl 0 rfl) ?_
  refine lv_bipush (v := (8 : Int32)) hx hb dX6_init_5 (by decide) ?_
  obtain ⟨h1, h2, h⟩ := h
  refine rNewI (N := 8) (R := ⟨1, MC, MS, 30⟩) F hW hbc hbs h1 h2 (by decide) dX6_init_7 (fun q1 H hq hW => ?_)
  replace h := h q1 hq
  replace hbc := bdg hbc h1
  replace hbs := bdg hbs h2
  clear h1 h2
  obtain ⟨u2, eu⟩ : ∃ z, z = mNew u q1 8 8 := ⟨_, rfl⟩
  rw [← eu] at hW
  replace h := h u2 eu
  clear eu
  refine pf_7_3 F hW hnm (x := (some q1)) h.1 q_74 dX6_init_9 (fun H locs hW => ?_)
  replace h := h.2
  obtain ⟨u3, eu⟩ : ∃ z, z = setR u2 227 v0 (some q1) := ⟨_, rfl⟩
  rw [← eu] at hW
  replace h := h u3 eu
  clear eu
  refine lv_aload_n hx hb dX6_init_12 rfl (lv_at hl 0 rfl) ?_
  refine lv_bipush (v := (8 : Int32)) hx hb dX6_init_13 (by decide) ?_
  obtain ⟨h1, h2, h⟩ := h
  refine rNewI (N := 8) (R := ⟨1, MC, MS, 30⟩) F hW hbc hbs h1 h2 (by decide) dX6_init_15 (fun q4 H hq hW => ?_)
  replace h := h q4 hq
  replace hbc := bdg hbc h1
  replace hbs := bdg hbs h2
  clear h1 h2
  obtain ⟨u5, eu⟩ : ∃ z, z = mNew u3 q4 8 8 := ⟨_, rfl⟩
  rw [← eu] at hW
  replace h := h u5 eu
  clear eu
  refine pf_7_4 F hW hnm (x := (some q4)) h.1 q_75 dX6_init_17 (fun H locs hW => ?_)
  replace h := h.2
  obtain ⟨u6, eu⟩ : ∃ z, z = setR u5 228 v0 (some q4) := ⟨_, rfl⟩
  rw [← eu] at hW
  replace h := h u6 eu
  clear eu
  refine lv_aload_n hx hb dX6_init_20 rfl (lv_at hl 0 rfl) ?_
  refine lv_bipush (v := (8 : Int32)) hx hb dX6_init_21 (by decide) ?_
  obtain ⟨h1, h2, h⟩ := h
  refine rNewZ (N := 8) (R := ⟨1, MC, MS, 30⟩) F hW hbc hbs h1 h2 (by decide) dX6_init_23 (fun q7 H hq hW => ?_)
  replace h := h q7 hq
  replace hbc := bdg hbc h1
  replace hbs := bdg hbs h2
  clear h1 h2
  obtain ⟨u8, eu⟩ : ∃ z, z = mNew u6 q7 9 8 := ⟨_, rfl⟩
  rw [← eu] at hW
  replace h := h u8 eu
  clear eu
  refine pf_7_5 F hW hnm (x := (some q7)) h.1 q_77 dX6_init_25 (fun H locs hW => ?_)
  replace h := h.2
  obtain ⟨u9, eu⟩ : ∃ z, z = setR u8 229 v0 (some q7) := ⟨_, rfl⟩
  rw [← eu] at hW
  replace h := h u9 eu
  clear eu
  refine lv_aload_n hx hb dX6_init_28 rfl (lv_at hl 0 rfl) ?_
  refine lv_bipush (v := (24 : Int32)) hx hb dX6_init_29 (by decide) ?_
  obtain ⟨h1, h2, h⟩ := h
  refine rNewI (N := 24) (R := ⟨1, MC, MS, 30⟩) F hW hbc hbs h1 h2 (by decide) dX6_init_31 (fun q10 H hq hW => ?_)
  replace h := h q10 hq
  replace hbc := bdg hbc h1
  replace hbs := bdg hbs h2
  clear h1 h2
  obtain ⟨u11, eu⟩ : ∃ z, z = mNew u9 q10 8 24 := ⟨_, rfl⟩
  rw [← eu] at hW
  replace h := h u11 eu
  clear eu
  refine pf_7_6 F hW hnm (x := (some q10)) h.1 q_78 dX6_init_33 (fun H locs hW => ?_)
  replace h := h.2
  obtain ⟨u12, eu⟩ : ∃ z, z = setR u11 230 v0 (some q10) := ⟨_, rfl⟩
  rw [← eu] at hW
  replace h := h u12 eu
  clear eu
  refine lv_aload_n hx hb dX6_init_36 rfl (lv_at hl 0 rfl) ?_
  refine lv_iconst (v := (4 : Int32)) hx hb dX6_init_37 (by decide) ?_
  obtain ⟨h1, h2, h⟩ := h
  refine rNewI (N := 4) (R := ⟨1, MC, MS, 30⟩) F hW hbc hbs h1 h2 (by decide) dX6_init_38 (fun q13 H hq hW => ?_)
  replace h := h q13 hq
  replace hbc := bdg hbc h1
  replace hbs := bdg hbs h2
  clear h1 h2
  obtain ⟨u14, eu⟩ : ∃ z, z = mNew u12 q13 8 4 := ⟨_, rfl⟩
  rw [← eu] at hW
  replace h := h u14 eu
  clear eu
  refine pf_7_7 F hW hnm (x := (some q13)) h.1 q_79 dX6_init_40 (fun H locs hW => ?_)
  replace h := h.2
  obtain ⟨u15, eu⟩ : ∃ z, z = setR u14 231 v0 (some q13) := ⟨_, rfl⟩
  rw [← eu] at hW
  replace h := h u15 eu
  clear eu
  refine lv_aload_n hx hb dX6_init_43 rfl (lv_at hl 0 rfl) ?_
  refine lv_iconst (v := (4 : Int32)) hx hb dX6_init_44 (by decide) ?_
  obtain ⟨h1, h2, h⟩ := h
  refine rNewI (N := 4) (R := ⟨1, MC, MS, 30⟩) F hW hbc hbs h1 h2 (by decide) dX6_init_45 (fun q16 H hq hW => ?_)
  replace h := h q16 hq
  replace hbc := bdg hbc h1
  replace hbs := bdg hbs h2
  clear h1 h2
  obtain ⟨u17, eu⟩ : ∃ z, z = mNew u15 q16 8 4 := ⟨_, rfl⟩
  rw [← eu] at hW
  replace h := h u17 eu
  clear eu
  refine pf_7_8 F hW hnm (x := (some q16)) h.1 q_80 dX6_init_47 (fun H locs hW => ?_)
  replace h := h.2
  obtain ⟨u18, eu⟩ : ∃ z, z = setR u17 232 v0 (some q16) := ⟨_, rfl⟩
  rw [← eu] at hW
  replace h := h u18 eu
  clear eu
  refine lv_aload_n hx hb dX6_init_50 rfl (lv_at hl 0 rfl) ?_
  refine lv_iconst (v := (4 : Int32)) hx hb dX6_init_51 (by decide) ?_
  obtain ⟨h1, h2, h⟩ := h
  refine rNewZ (N := 4) (R := ⟨1, MC, MS, 30⟩) F hW hbc hbs h1 h2 (by decide) dX6_init_52 (fun q19 H hq hW => ?_)
  replace h := h q19 hq
  replace hbc := bdg hbc h1
  replace hbs := bdg hbs h2
  clear h1 h2
  obtain ⟨u20, eu⟩ : ∃ z, z = mNew u18 q19 9 4 := ⟨_, rfl⟩
  rw [← eu] at hW
  replace h := h u20 eu
  clear eu
  refine pf_7_9 F hW hnm (x := (some q19)) h.1 q_81 dX6_init_54 (fun H locs hW => ?_)
  replace h := h.2
  obtain ⟨u21, eu⟩ : ∃ z, z = setR u20 233 v0 (some q19) := ⟨_, rfl⟩
  rw [← eu] at hW
  replace h := h u21 eu
  clear eu
  refine lv_aload_n hx hb dX6_init_57 rfl (lv_at hl 0 rfl) ?_
  refine lv_bipush (v := (60 : Int32)) hx hb dX6_init_58 (by decide) ?_
  obtain ⟨h1, h2, h⟩ := h
  refine rNewI (N := 60) (R := ⟨1, MC, MS, 30⟩) F hW hbc hbs h1 h2 (by decide) dX6_init_60 (fun q22 H hq hW => ?_)
  replace h := h q22 hq
  replace hbc := bdg hbc h1
  replace hbs := bdg hbs h2
  clear h1 h2
  obtain ⟨u23, eu⟩ : ∃ z, z = mNew u21 q22 8 60 := ⟨_, rfl⟩
  rw [← eu] at hW
  replace h := h u23 eu
  clear eu
  refine pf_7_11 F hW hnm (x := (some q22)) h.1 q_82 dX6_init_62 (fun H locs hW => ?_)
  replace h := h.2
  obtain ⟨u24, eu⟩ : ∃ z, z = setR u23 235 v0 (some q22) := ⟨_, rfl⟩
  rw [← eu] at hW
  replace h := h u24 eu
  clear eu
  refine lv_aload_n hx hb dX6_init_65 rfl (lv_at hl 0 rfl) ?_
  refine lv_bipush (v := (60 : Int32)) hx hb dX6_init_66 (by decide) ?_
  obtain ⟨h1, h2, h⟩ := h
  refine rNewI (N := 60) (R := ⟨1, MC, MS, 30⟩) F hW hbc hbs h1 h2 (by decide) dX6_init_68 (fun q25 H hq hW => ?_)
  replace h := h q25 hq
  replace hbc := bdg hbc h1
  replace hbs := bdg hbs h2
  clear h1 h2
  obtain ⟨u26, eu⟩ : ∃ z, z = mNew u24 q25 8 60 := ⟨_, rfl⟩
  rw [← eu] at hW
  replace h := h u26 eu
  clear eu
  refine pf_7_12 F hW hnm (x := (some q25)) h.1 q_83 dX6_init_70 (fun H locs hW => ?_)
  replace h := h.2
  obtain ⟨u27, eu⟩ : ∃ z, z = setR u26 236 v0 (some q25) := ⟨_, rfl⟩
  rw [← eu] at hW
  replace h := h u27 eu
  clear eu
  refine lv_aload_n hx hb dX6_init_73 rfl (lv_at hl 0 rfl) ?_
  refine lv_bipush (v := (60 : Int32)) hx hb dX6_init_74 (by decide) ?_
  obtain ⟨h1, h2, h⟩ := h
  refine rNewI (N := 60) (R := ⟨1, MC, MS, 30⟩) F hW hbc hbs h1 h2 (by decide) dX6_init_76 (fun q28 H hq hW => ?_)
  replace h := h q28 hq
  replace hbc := bdg hbc h1
  replace hbs := bdg hbs h2
  clear h1 h2
  obtain ⟨u29, eu⟩ : ∃ z, z = mNew u27 q28 8 60 := ⟨_, rfl⟩
  rw [← eu] at hW
  replace h := h u29 eu
  clear eu
  refine pf_7_13 F hW hnm (x := (some q28)) h.1 q_84 dX6_init_78 (fun H locs hW => ?_)
  replace h := h.2
  obtain ⟨u30, eu⟩ : ∃ z, z = setR u29 237 v0 (some q28) := ⟨_, rfl⟩
  rw [← eu] at hW
  replace h := h u30 eu
  clear eu
  refine lv_aload_n hx hb dX6_init_81 rfl (lv_at hl 0 rfl) ?_
  refine lv_bipush (v := (60 : Int32)) hx hb dX6_init_82 (by decide) ?_
  obtain ⟨h1, h2, h⟩ := h
  refine rNewI (N := 60) (R := ⟨1, MC, MS, 30⟩) F hW hbc hbs h1 h2 (by decide) dX6_init_84 (fun q31 H hq hW => ?_)
  replace h := h q31 hq
  replace hbc := bdg hbc h1
  replace hbs := bdg hbs h2
  clear h1 h2
  obtain ⟨u32, eu⟩ : ∃ z, z = mNew u30 q31 8 60 := ⟨_, rfl⟩
  rw [← eu] at hW
  replace h := h u32 eu
  clear eu
  refine pf_7_14 F hW hnm (x := (some q31)) h.1 q_85 dX6_init_86 (fun H locs hW => ?_)
  replace h := h.2
  obtain ⟨u33, eu⟩ : ∃ z, z = setR u32 238 v0 (some q31) := ⟨_, rfl⟩
  rw [← eu] at hW
  replace h := h u33 eu
  clear eu
  refine lv_aload_n hx hb dX6_init_89 rfl (lv_at hl 0 rfl) ?_
  refine lv_bipush (v := (60 : Int32)) hx hb dX6_init_90 (by decide) ?_
  obtain ⟨h1, h2, h⟩ := h
  refine rNewI (N := 60) (R := ⟨1, MC, MS, 30⟩) F hW hbc hbs h1 h2 (by decide) dX6_init_92 (fun q34 H hq hW => ?_)
  replace h := h q34 hq
  replace hbc := bdg hbc h1
  replace hbs := bdg hbs h2
  clear h1 h2
  obtain ⟨u35, eu⟩ : ∃ z, z = mNew u33 q34 8 60 := ⟨_, rfl⟩
  rw [← eu] at hW
  replace h := h u35 eu
  clear eu
  refine pf_7_15 F hW hnm (x := (some q34)) h.1 q_86 dX6_init_94 (fun H locs hW => ?_)
  replace h := h.2
  obtain ⟨u36, eu⟩ : ∃ z, z = setR u35 239 v0 (some q34) := ⟨_, rfl⟩
  rw [← eu] at hW
  replace h := h u36 eu
  clear eu
  refine lv_aload_n hx hb dX6_init_97 rfl (lv_at hl 0 rfl) ?_
  refine lv_bipush (v := (60 : Int32)) hx hb dX6_init_98 (by decide) ?_
  obtain ⟨h1, h2, h⟩ := h
  refine rNewZ (N := 60) (R := ⟨1, MC, MS, 30⟩) F hW hbc hbs h1 h2 (by decide) dX6_init_100 (fun q37 H hq hW => ?_)
  replace h := h q37 hq
  replace hbc := bdg hbc h1
  replace hbs := bdg hbs h2
  clear h1 h2
  obtain ⟨u38, eu⟩ : ∃ z, z = mNew u36 q37 9 60 := ⟨_, rfl⟩
  rw [← eu] at hW
  replace h := h u38 eu
  clear eu
  refine pf_7_16 F hW hnm (x := (some q37)) h.1 q_87 dX6_init_102 (fun H locs hW => ?_)
  replace h := h.2
  obtain ⟨u39, eu⟩ : ∃ z, z = setR u38 240 v0 (some q37) := ⟨_, rfl⟩
  rw [← eu] at hW
  replace h := h u39 eu
  clear eu
  refine lv_aload_n hx hb dX6_init_105 rfl (lv_at hl 0 rfl) ?_
  refine lv_sipush (v := (300 : Int32)) hx hb dX6_init_106 (by decide) ?_
  obtain ⟨h1, h2, h⟩ := h
  refine rNewI (N := 300) (R := ⟨1, MC, MS, 30⟩) F hW hbc hbs h1 h2 (by decide) dX6_init_109 (fun q40 H hq hW => ?_)
  replace h := h q40 hq
  replace hbc := bdg hbc h1
  replace hbs := bdg hbs h2
  clear h1 h2
  obtain ⟨u41, eu⟩ : ∃ z, z = mNew u39 q40 8 300 := ⟨_, rfl⟩
  rw [← eu] at hW
  replace h := h u41 eu
  clear eu
  refine pf_7_18 F hW hnm (x := (some q40)) h.1 q_88 dX6_init_111 (fun H locs hW => ?_)
  replace h := h.2
  obtain ⟨u42, eu⟩ : ∃ z, z = setR u41 242 v0 (some q40) := ⟨_, rfl⟩
  rw [← eu] at hW
  replace h := h u42 eu
  clear eu
  refine lv_aload_n hx hb dX6_init_114 rfl (lv_at hl 0 rfl) ?_
  refine lv_sipush (v := (300 : Int32)) hx hb dX6_init_115 (by decide) ?_
  obtain ⟨h1, h2, h⟩ := h
  refine rNewI (N := 300) (R := ⟨1, MC, MS, 30⟩) F hW hbc hbs h1 h2 (by decide) dX6_init_118 (fun q43 H hq hW => ?_)
  replace h := h q43 hq
  replace hbc := bdg hbc h1
  replace hbs := bdg hbs h2
  clear h1 h2
  obtain ⟨u44, eu⟩ : ∃ z, z = mNew u42 q43 8 300 := ⟨_, rfl⟩
  rw [← eu] at hW
  replace h := h u44 eu
  clear eu
  refine pf_7_19 F hW hnm (x := (some q43)) h.1 q_89 dX6_init_120 (fun H locs hW => ?_)
  replace h := h.2
  obtain ⟨u45, eu⟩ : ∃ z, z = setR u44 243 v0 (some q43) := ⟨_, rfl⟩
  rw [← eu] at hW
  replace h := h u45 eu
  clear eu
  refine lv_aload_n hx hb dX6_init_123 rfl (lv_at hl 0 rfl) ?_
  refine lv_sipush (v := (300 : Int32)) hx hb dX6_init_124 (by decide) ?_
  obtain ⟨h1, h2, h⟩ := h
  refine rNewI (N := 300) (R := ⟨1, MC, MS, 30⟩) F hW hbc hbs h1 h2 (by decide) dX6_init_127 (fun q46 H hq hW => ?_)
  replace h := h q46 hq
  replace hbc := bdg hbc h1
  replace hbs := bdg hbs h2
  clear h1 h2
  obtain ⟨u47, eu⟩ : ∃ z, z = mNew u45 q46 8 300 := ⟨_, rfl⟩
  rw [← eu] at hW
  replace h := h u47 eu
  clear eu
  refine pf_7_20 F hW hnm (x := (some q46)) h.1 q_90 dX6_init_129 (fun H locs hW => ?_)
  replace h := h.2
  obtain ⟨u48, eu⟩ : ∃ z, z = setR u47 244 v0 (some q46) := ⟨_, rfl⟩
  rw [← eu] at hW
  replace h := h u48 eu
  clear eu
  refine lv_aload_n hx hb dX6_init_132 rfl (lv_at hl 0 rfl) ?_
  refine lv_sipush (v := (300 : Int32)) hx hb dX6_init_133 (by decide) ?_
  obtain ⟨h1, h2, h⟩ := h
  refine rNewI (N := 300) (R := ⟨1, MC, MS, 30⟩) F hW hbc hbs h1 h2 (by decide) dX6_init_136 (fun q49 H hq hW => ?_)
  replace h := h q49 hq
  replace hbc := bdg hbc h1
  replace hbs := bdg hbs h2
  clear h1 h2
  obtain ⟨u50, eu⟩ : ∃ z, z = mNew u48 q49 8 300 := ⟨_, rfl⟩
  rw [← eu] at hW
  replace h := h u50 eu
  clear eu
  refine pf_7_21 F hW hnm (x := (some q49)) h.1 q_91 dX6_init_138 (fun H locs hW => ?_)
  replace h := h.2
  obtain ⟨u51, eu⟩ : ∃ z, z = setR u50 245 v0 (some q49) := ⟨_, rfl⟩
  rw [← eu] at hW
  replace h := h u51 eu
  clear eu
  refine lv_iconst (v := (0 : Int32)) hx hb dX6_init_141 (by decide) ?_
  refine lv_istore_n (lv' := [(1, .int (0 : Int32)), (0, .ref v0)]) hx hb dX6_init_142 rfl hl (by decide) rfl (fun ls hl9 => ?_)
  replace hl := hl9
  clear hl9
  obtain ⟨n, h⟩ := h
  exact t_X6_init_143 v0 MC MS F hr hnm K n (0 : Int32) (((((((((((((((((MC - 1) - 1) - 1) - 1) - 1) - 1) - 1) - 1) - 1) - 1) - 1) - 1) - 1) - 1) - 1) - 1) - 1) (((((((((((((((((MS - 8) - 8) - 8) - 24) - 4) - 4) - 4) - 60) - 60) - 60) - 60) - 60) - 60) - 300) - 300) - 300) - 300) u51 _ _ _ _ _ h hW (lv_sub hl [1, 0] rfl) hbc hbs
set_option maxHeartbeats 4000000 in
set_option maxRecDepth 100000 in
theorem c_X6_isEscort {l : Launch} (hst : l.stackTraces = false) (G : Ctx) (v0 : Int32) (u : Mem) (K : Int32 → Mem → Prop) (h : w_X6_isEscort G v0 u K) : CtI l yX6_isEscort (.code yX6_isEscort cX6_isEscort 1 (some .boolean)) 1 22 0 0 G [.int v0] u K := by
  refine entM (by first | decide | decide +kernel) hst (by first | decide | exact Nat.le_of_ble_eq_true rfl) (fun p e s m below meth c ls F hr hnm hW hl => ?_)
  have F : Fx p l s m ([.int v0]).toArray meth c cX6_isEscort 1 RX6 G := F
  have hnm : meth.name = "isEscort" := hnm
  have hl : lv_has ls 1 [(0, .int v0)] := hl
  have hx := F.1.1
  have hb := F.1.2.1
  unfold w_X6_isEscort at h
  refine lv_iload_n hx hb dX6_isEscort_0 rfl (lv_at hl 0 rfl) ?_
  refine lv_iconst (v := (0 : Int32)) hx hb dX6_isEscort_1 (by decide) ?_
  refine lv_iconst (v := (3 : Int32)) hx hb dX6_isEscort_2 (by decide) ?_
  refine cI (runS (n := 3) (As := [.int v0, .int (0 : Int32), .int (3 : Int32)]) (rest := []) F hW (c_X6_in F.2.2.2 G v0 (0 : Int32) (3 : Int32) u _ h) q_123 q_124 q_5 q_125 (by decide +kernel) ⟨Nat.le_of_ble_eq_true rfl, Nat.le_of_ble_eq_true rfl⟩ dX6_isEscort_3 rfl hl.1 (Nat.le_of_ble_eq_true rfl) ⟨Nat.zero_le _, Nat.zero_le _⟩) hW (fun r2 u1 h9 H locs hW => ?_)
  replace h := h9
  clear h9
  exact retZ F hr hW h.1 h.2 dX6_isEscort_6
set_option maxHeartbeats 4000000 in
set_option maxRecDepth 100000 in
theorem c_X6_length {l : Launch} (hst : l.stackTraces = false) (G : Ctx) (v0 : Int32) (v1 : Int32) (u : Mem) (K : Int32 → Mem → Prop) (h : w_X6_length G v0 v1 u K) : CtI l yX6_length (.code yX6_length cX6_length 3 (some .int)) 0 0 0 0 G [.int v0, .int v1] u K := by
  refine entM (by first | decide | decide +kernel) hst (by first | decide | exact Nat.le_of_ble_eq_true rfl) (fun p e s m below meth c ls F hr hnm hW hl => ?_)
  have F : Fx p l s m ([.int v0, .int v1]).toArray meth c cX6_length 3 RX6 G := F
  have hnm : meth.name = "length" := hnm
  have hl : lv_has ls 3 [(0, .int v0), (1, .int v1)] := hl
  have hx := F.1.1
  have hb := F.1.2.1
  unfold w_X6_length at h
  refine lv_iload_n hx hb dX6_length_0 rfl (lv_at hl 1 rfl) ?_
  refine lv_iload_n hx hb dX6_length_1 rfl (lv_at hl 0 rfl) ?_
  refine lv_isub hx hb dX6_length_2 ?_
  refine lv_bipush (v := (8 : Int32)) hx hb dX6_length_3 (by decide) ?_
  refine lv_iadd hx hb dX6_length_5 ?_
  refine lv_bipush (v := (8 : Int32)) hx hb dX6_length_6 (by decide) ?_
  refine lv_irem hx hb dX6_length_8 h.1 ?_
  replace h := h.2
  refine lv_istore_n (lv' := [(2, .int (((v1 - v0) + (8 : Int32)) - ((v1 - v0) + (8 : Int32)) / (8 : Int32) * (8 : Int32))), (0, .int v0), (1, .int v1)]) hx hb dX6_length_9 rfl hl (by decide) rfl (fun ls hl9 => ?_)
  replace hl := hl9
  clear hl9
  refine lv_iload_n hx hb dX6_length_10 rfl (lv_at hl 0 rfl) ?_
  refine lv_iconst (v := (4 : Int32)) hx hb dX6_length_11 (by decide) ?_
  refine lv_icmp_le (tgt := 22) hx hb dX6_length_12 (by decide) (fun hc1 => ?_) (fun hc1 => ?_)
  · have h := h.1 hc1
    refine lv_iload_n hx hb dX6_length_22 rfl (lv_at hl 0 rfl) ?_
    exact retI F hr hW h dX6_length_23
  · have h := h.2 hc1
    refine lv_bipush (v := (8 : Int32)) hx hb dX6_length_15 (by decide) ?_
    refine lv_iload_n hx hb dX6_length_17 rfl (lv_at hl 0 rfl) ?_
    refine lv_isub hx hb dX6_length_18 ?_
    refine lv_goto (tgt := 23) hx hb dX6_length_19 (by decide) ?_
    exact retI F hr hW h dX6_length_23
set_option maxHeartbeats 4000000 in
set_option maxRecDepth 100000 in
theorem c_X6_minute {l : Launch} (hst : l.stackTraces = false) (G : Ctx) (v0 : Nat) (u : Mem) (K : Int32 → Mem → Prop) (h : w_X6_minute G v0 u K) : CtI l yX6_minute (.code yX6_minute cX6_minute 1 (some .int)) 0 0 0 0 G [.ref v0] u K := by
  refine entM (by first | decide | decide +kernel) hst (by first | decide | exact Nat.le_of_ble_eq_true rfl) (fun p e s m below meth c ls F hr hnm hW hl => ?_)
  have F : Fx p l s m ([.ref v0]).toArray meth c cX6_minute 1 RX6 G := F
  have hnm : meth.name = "minute" := hnm
  have hl : lv_has ls 1 [(0, .ref v0)] := hl
  have hx := F.1.1
  have hb := F.1.2.1
  unfold w_X6_minute at h
  refine lv_aload_n hx hb dX6_minute_0 rfl (lv_at hl 0 rfl) ?_
  refine lv_iconst (v := (0 : Int32)) hx hb dX6_minute_1 (by decide) ?_
  refine pf_7_0 F hW (x := (0 : Int32)) h.1 q_118 dX6_minute_2 (fun H locs hW => ?_)
  replace h := h.2
  obtain ⟨u1, eu⟩ : ∃ z, z = setI u 224 v0 (0 : Int32) := ⟨_, rfl⟩
  rw [← eu] at hW
  replace h := h u1 eu
  clear eu
  refine lv_aload_n hx hb dX6_minute_5 rfl (lv_at hl 0 rfl) ?_
  refine gf_7_2 F hW h.1 q_368 dX6_minute_6 ?_
  replace h := h.2
  exact retI F hr hW h dX6_minute_9
set_option maxHeartbeats 4000000 in
set_option maxRecDepth 100000 in
theorem t_X6_night_113 {p : Program} {l : Launch} {e : Env} {s : State} {m : MethodId} {below : List Frame} {meth : Method} {c : Code} {G : Ctx} (v0 : Nat) (F : Fx p l s m ([.ref v0]).toArray meth c cX6_night 4 RX6 G) (hr : meth.sig.returnType = (some .int)) (K : Int32 → Mem → Prop) (J86 : Int32 → Int32 → Mem → Prop) (hJ86 : ∀ (v2 : Int32) (v3 : Int32) (u : Mem) (H : Heap) (locs : List Loc) (ls : Array Slot), J86 v2 v3 u → Wd G u s H locs → lv_has ls 4 [(0, .ref v0), (2, .int v2), (3, .int v3)] → W p l e { frames := 1, cells := 0, slots := 0, locals := 21 } s m ([.ref v0]).toArray below meth c H locs 0 0 (MQ below (va_Qi K (fun u' t => Wp G u' t.heap) (Ab G)) ([.ref v0]).toArray s 0 0 (Ab G)) (F0 m 86 ls [])) : ∀ (v3 : Int32) (s0 : Int32) (s1 : Int32) (u : Mem) (H : Heap) (locs : List Loc) (ls : Array Slot), w_X6_night_113 G v0 K J86 v3 s0 s1 u → Wd G u s H locs → lv_has ls 4 [(0, .ref v0), (3, .int v3)] → W p l e { frames := 1, cells := 0, slots := 0, locals := 21 } s m ([.ref v0]).toArray below meth c H locs 0 0 (MQ below (va_Qi K (fun u' t => Wp G u' t.heap) (Ab G)) ([.ref v0]).toArray s 0 0 (Ab G)) (F0 m 113 ls [.int s0, .int s1]) := by
  have hx := F.1.1
  have hb := F.1.2.1
  intro v3 s0 s1 u H locs ls h hW hl
  unfold w_X6_night_113 at h
  refine lv_iadd hx hb dX6_night_113 ?_
  refine lv_istore_n (lv' := [(2, .int (s1 + s0)), (0, .ref v0), (3, .int v3)]) hx hb dX6_night_114 rfl hl (by decide) rfl (fun ls hl9 => ?_)
  replace hl := hl9
  clear hl9
  refine lv_iinc (v := (v3 + 1)) (lv' := [(3, .int (v3 + 1)), (2, .int (s1 + s0)), (0, .ref v0)]) hx hb dX6_night_115 hl (k := 2) rfl rfl (by decide) rfl (fun ls hl9 => ?_)
  replace hl := hl9
  clear hl9
  refine lv_goto (tgt := 86) hx hb dX6_night_118 (by decide) ?_
  exact hJ86 (s1 + s0) (v3 + 1) u _ _ _ h hW (lv_sub hl [2, 1, 0] rfl)
set_option maxHeartbeats 4000000 in
set_option maxRecDepth 100000 in
theorem t_X6_night_86 {p : Program} {l : Launch} {e : Env} {s : State} {m : MethodId} {below : List Frame} {meth : Method} {c : Code} {G : Ctx} (v0 : Nat) (F : Fx p l s m ([.ref v0]).toArray meth c cX6_night 4 RX6 G) (hr : meth.sig.returnType = (some .int)) (K : Int32 → Mem → Prop) : ∀ (n : Nat), ∀ (v2 : Int32) (v3 : Int32) (u : Mem) (H : Heap) (locs : List Loc) (ls : Array Slot), w_X6_night_86 G v0 K n v2 v3 u → Wd G u s H locs → lv_has ls 4 [(0, .ref v0), (2, .int v2), (3, .int v3)] → W p l e { frames := 1, cells := 0, slots := 0, locals := 21 } s m ([.ref v0]).toArray below meth c H locs 0 0 (MQ below (va_Qi K (fun u' t => Wp G u' t.heap) (Ab G)) ([.ref v0]).toArray s 0 0 (Ab G)) (F0 m 86 ls []) := by
  have hx := F.1.1
  have hb := F.1.2.1
  intro n
  induction n with
  | zero =>
    intro v2 v3 u H locs ls h hW hl
    exact h.elim
  | succ n hJ86 =>
    intro v2 v3 u H locs ls h hW hl
    have h : b_X6_night_86 G v0 K (w_X6_night_86 G v0 K n) v2 v3 u := h
    revert h
    generalize w_X6_night_86 G v0 K n = J86 at hJ86 ⊢
    intro h
    unfold b_X6_night_86 at h
    refine lv_iload_n hx hb dX6_night_86 rfl (lv_at hl 2 rfl) ?_
    refine lv_aload_n hx hb dX6_night_87 rfl (lv_at hl 0 rfl) ?_
    refine gf_7_17 F hW h.1 q_387 dX6_night_88 ?_
    replace h := h.2
    refine lv_icmp_ge (tgt := 121) hx hb dX6_night_91 (by decide) (fun hc31 => ?_) (fun hc31 => ?_)
    · have h := h.1 hc31
      refine lv_iload_n hx hb dX6_night_121 rfl (lv_at hl 1 rfl) ?_
      exact retI F hr hW h dX6_night_122
    · have h := h.2 hc31
      refine lv_iload_n hx hb dX6_night_94 rfl (lv_at hl 1 rfl) ?_
      refine lv_aload_n hx hb dX6_night_95 rfl (lv_at hl 0 rfl) ?_
      refine gf_7_21 F hW h.1 q_91 dX6_night_96 ?_
      replace h := h.2
      obtain ⟨r32, er⟩ : ∃ z, z = mR u 245 v0 := ⟨_, rfl⟩
      rw [← er]
      replace h := h r32 er
      clear er
      refine lv_iload_n hx hb dX6_night_99 rfl (lv_at hl 2 rfl) ?_
      obtain ⟨a33, ea, h⟩ := h
      subst ea
      refine rIald F hW h.1 h.2.1 dX6_night_100 ?_
      replace h := h.2.2
      refine lv_aload_n hx hb dX6_night_101 rfl (lv_at hl 0 rfl) ?_
      refine gf_7_1 F hW h.1 q_388 dX6_night_102 ?_
      replace h := h.2
      refine lv_icmp_ne (tgt := 112) hx hb dX6_night_105 (by decide) (fun hc34 => ?_) (fun hc34 => ?_)
      · have h := h.2 hc34
        refine lv_iconst (v := (0 : Int32)) hx hb dX6_night_112 (by decide) ?_
        exact t_X6_night_113 v0 F hr K J86 hJ86 v3 (0 : Int32) v2 u _ _ _ h hW (lv_sub hl [0, 2] rfl)
      · have h := h.1 hc34
        refine lv_iconst (v := (1 : Int32)) hx hb dX6_night_108 (by decide) ?_
        refine lv_goto (tgt := 113) hx hb dX6_night_109 (by decide) ?_
        exact t_X6_night_113 v0 F hr K J86 hJ86 v3 (1 : Int32) v2 u _ _ _ h hW (lv_sub hl [0, 2] rfl)
set_option maxHeartbeats 4000000 in
set_option maxRecDepth 100000 in
theorem t_X6_night_50 {p : Program} {l : Launch} {e : Env} {s : State} {m : MethodId} {below : List Frame} {meth : Method} {c : Code} {G : Ctx} (v0 : Nat) (F : Fx p l s m ([.ref v0]).toArray meth c cX6_night 4 RX6 G) (hr : meth.sig.returnType = (some .int)) (K : Int32 → Mem → Prop) (J23 : Int32 → Int32 → Mem → Prop) (hJ23 : ∀ (v1 : Int32) (v2 : Int32) (u : Mem) (H : Heap) (locs : List Loc) (ls : Array Slot), J23 v1 v2 u → Wd G u s H locs → lv_has ls 4 [(0, .ref v0), (1, .int v1), (2, .int v2)] → W p l e { frames := 1, cells := 0, slots := 0, locals := 21 } s m ([.ref v0]).toArray below meth c H locs 0 0 (MQ below (va_Qi K (fun u' t => Wp G u' t.heap) (Ab G)) ([.ref v0]).toArray s 0 0 (Ab G)) (F0 m 23 ls [])) : ∀ (v2 : Int32) (s0 : Int32) (u : Mem) (H : Heap) (locs : List Loc) (ls : Array Slot), w_X6_night_50 G v0 K J23 v2 s0 u → Wd G u s H locs → lv_has ls 4 [(0, .ref v0), (2, .int v2)] → W p l e { frames := 1, cells := 0, slots := 0, locals := 21 } s m ([.ref v0]).toArray below meth c H locs 0 0 (MQ below (va_Qi K (fun u' t => Wp G u' t.heap) (Ab G)) ([.ref v0]).toArray s 0 0 (Ab G)) (F0 m 50 ls [.int s0]) := by
  have hx := F.1.1
  have hb := F.1.2.1
  intro v2 s0 u H locs ls h hW hl
  unfold w_X6_night_50 at h
  refine lv_istore_n (lv' := [(1, .int s0), (0, .ref v0), (2, .int v2)]) hx hb dX6_night_50 rfl hl (by decide) rfl (fun ls hl9 => ?_)
  replace hl := hl9
  clear hl9
  refine lv_iinc (v := (v2 + 1)) (lv' := [(2, .int (v2 + 1)), (1, .int s0), (0, .ref v0)]) hx hb dX6_night_51 hl (k := 2) rfl rfl (by decide) rfl (fun ls hl9 => ?_)
  replace hl := hl9
  clear hl9
  refine lv_goto (tgt := 23) hx hb dX6_night_54 (by decide) ?_
  exact hJ23 s0 (v2 + 1) u _ _ _ h hW (lv_sub hl [2, 1, 0] rfl)
set_option maxHeartbeats 4000000 in
set_option maxRecDepth 100000 in
theorem t_X6_night_49 {p : Program} {l : Launch} {e : Env} {s : State} {m : MethodId} {below : List Frame} {meth : Method} {c : Code} {G : Ctx} (v0 : Nat) (F : Fx p l s m ([.ref v0]).toArray meth c cX6_night 4 RX6 G) (hr : meth.sig.returnType = (some .int)) (K : Int32 → Mem → Prop) (J23 : Int32 → Int32 → Mem → Prop) (hJ23 : ∀ (v1 : Int32) (v2 : Int32) (u : Mem) (H : Heap) (locs : List Loc) (ls : Array Slot), J23 v1 v2 u → Wd G u s H locs → lv_has ls 4 [(0, .ref v0), (1, .int v1), (2, .int v2)] → W p l e { frames := 1, cells := 0, slots := 0, locals := 21 } s m ([.ref v0]).toArray below meth c H locs 0 0 (MQ below (va_Qi K (fun u' t => Wp G u' t.heap) (Ab G)) ([.ref v0]).toArray s 0 0 (Ab G)) (F0 m 23 ls [])) : ∀ (v2 : Int32) (u : Mem) (H : Heap) (locs : List Loc) (ls : Array Slot), w_X6_night_49 G v0 K J23 v2 u → Wd G u s H locs → lv_has ls 4 [(0, .ref v0), (2, .int v2)] → W p l e { frames := 1, cells := 0, slots := 0, locals := 21 } s m ([.ref v0]).toArray below meth c H locs 0 0 (MQ below (va_Qi K (fun u' t => Wp G u' t.heap) (Ab G)) ([.ref v0]).toArray s 0 0 (Ab G)) (F0 m 49 ls []) := by
  have hx := F.1.1
  have hb := F.1.2.1
  intro v2 u H locs ls h hW hl
  unfold w_X6_night_49 at h
  refine lv_iconst (v := (0 : Int32)) hx hb dX6_night_49 (by decide) ?_
  exact t_X6_night_50 v0 F hr K J23 hJ23 v2 (0 : Int32) u _ _ _ h hW (lv_sub hl [0, 1] rfl)
set_option maxHeartbeats 4000000 in
set_option maxRecDepth 100000 in
theorem t_X6_night_23 {p : Program} {l : Launch} {e : Env} {s : State} {m : MethodId} {below : List Frame} {meth : Method} {c : Code} {G : Ctx} (v0 : Nat) (F : Fx p l s m ([.ref v0]).toArray meth c cX6_night 4 RX6 G) (hr : meth.sig.returnType = (some .int)) (K : Int32 → Mem → Prop) : ∀ (n : Nat), ∀ (v1 : Int32) (v2 : Int32) (u : Mem) (H : Heap) (locs : List Loc) (ls : Array Slot), w_X6_night_23 G v0 K n v1 v2 u → Wd G u s H locs → lv_has ls 4 [(0, .ref v0), (1, .int v1), (2, .int v2)] → W p l e { frames := 1, cells := 0, slots := 0, locals := 21 } s m ([.ref v0]).toArray below meth c H locs 0 0 (MQ below (va_Qi K (fun u' t => Wp G u' t.heap) (Ab G)) ([.ref v0]).toArray s 0 0 (Ab G)) (F0 m 23 ls []) := by
  have hx := F.1.1
  have hb := F.1.2.1
  intro n
  induction n with
  | zero =>
    intro v1 v2 u H locs ls h hW hl
    exact h.elim
  | succ n hJ23 =>
    intro v1 v2 u H locs ls h hW hl
    have h : b_X6_night_23 G v0 K (w_X6_night_23 G v0 K n) v1 v2 u := h
    revert h
    generalize w_X6_night_23 G v0 K n = J23 at hJ23 ⊢
    intro h
    unfold b_X6_night_23 at h
    refine lv_iload_n hx hb dX6_night_23 rfl (lv_at hl 2 rfl) ?_
    refine lv_aload_n hx hb dX6_night_24 rfl (lv_at hl 0 rfl) ?_
    refine gf_7_10 F hW h.1 q_273 dX6_night_25 ?_
    replace h := h.2
    refine lv_icmp_ge (tgt := 57) hx hb dX6_night_28 (by decide) (fun hc35 => ?_) (fun hc35 => ?_)
    · have h := h.1 hc35
      refine lv_iload_n hx hb dX6_night_57 rfl (lv_at hl 1 rfl) ?_
      refine lv_if_ne (tgt := 67) hx hb dX6_night_58 (by decide) (fun hc36 => ?_) (fun hc36 => ?_)
      · have h := h.2 hc36
        refine lv_aload_n hx hb dX6_night_67 rfl (lv_at hl 0 rfl) ?_
        refine lv_dup hx hb dX6_night_68 rfl ?_
        refine gf_7_1 F hW h.1 q_388 dX6_night_69 ?_
        replace h := h.2
        refine lv_iconst (v := (1 : Int32)) hx hb dX6_night_72 (by decide) ?_
        refine lv_iadd hx hb dX6_night_73 ?_
        refine pf_7_1 F hW (x := ((mI u 225 v0) + (1 : Int32))) h.1 q_388 dX6_night_74 (fun H locs hW => ?_)
        replace h := h.2
        obtain ⟨u37, eu⟩ : ∃ z, z = setI u 225 v0 ((mI u 225 v0) + (1 : Int32)) := ⟨_, rfl⟩
        rw [← eu] at hW
        replace h := h u37 eu
        clear eu
        refine lv_aload_n hx hb dX6_night_77 rfl (lv_at hl 0 rfl) ?_
        refine lv_iconst (v := (0 : Int32)) hx hb dX6_night_78 (by decide) ?_
        refine pf_7_2 F hW (x := (0 : Int32)) h.1 q_368 dX6_night_79 (fun H locs hW => ?_)
        replace h := h.2
        obtain ⟨u38, eu⟩ : ∃ z, z = setI u37 226 v0 (0 : Int32) := ⟨_, rfl⟩
        rw [← eu] at hW
        replace h := h u38 eu
        clear eu
        refine lv_iconst (v := (0 : Int32)) hx hb dX6_night_82 (by decide) ?_
        refine lv_istore_n (lv' := [(2, .int (0 : Int32)), (0, .ref v0), (1, .int v1)]) hx hb dX6_night_83 rfl hl (by decide) rfl (fun ls hl9 => ?_)
        replace hl := hl9
        clear hl9
        refine lv_iconst (v := (0 : Int32)) hx hb dX6_night_84 (by decide) ?_
        refine lv_istore_n (lv' := [(3, .int (0 : Int32)), (2, .int (0 : Int32)), (0, .ref v0), (1, .int v1)]) hx hb dX6_night_85 rfl hl (by decide) rfl (fun ls hl9 => ?_)
        replace hl := hl9
        clear hl9
        obtain ⟨n, h⟩ := h
        exact t_X6_night_86 v0 F hr K n (0 : Int32) (0 : Int32) u38 _ _ _ h hW (lv_sub hl [2, 1, 0] rfl)
      · have h := h.1 hc36
        refine lv_aload_n hx hb dX6_night_61 rfl (lv_at hl 0 rfl) ?_
        refine lv_iconst (v := (1 : Int32)) hx hb dX6_night_62 (by decide) ?_
        obtain ⟨hob, h⟩ := h
        refine cI (runV (n := 1) (As := [.int (1 : Int32)]) (rest := []) F hW (c_X6_fails F.2.2.2 G v0 (1 : Int32) u _ h) hob (ci := 7) rfl q_126 q_127 q_128 q_5 q_129 rfl (by decide +kernel) ⟨Nat.le_of_ble_eq_true rfl, Nat.le_of_ble_eq_true rfl⟩ dX6_night_63 rfl hl.1 (Nat.le_of_ble_eq_true rfl) ⟨Nat.zero_le _, Nat.zero_le _⟩) hW (fun r40 u39 h9 H locs hW => ?_)
        replace h := h9
        clear h9
        exact retI F hr hW h dX6_night_66
    · have h := h.2 hc35
      refine lv_iload_n hx hb dX6_night_31 rfl (lv_at hl 1 rfl) ?_
      refine lv_if_eq (tgt := 49) hx hb dX6_night_32 (by decide) (fun hc41 => ?_) (fun hc41 => ?_)
      · have h := h.1 hc41
        exact t_X6_night_49 v0 F hr K J23 hJ23 v2 u _ _ _ h hW (lv_sub hl [0, 2] rfl)
      · have h := h.2 hc41
        refine lv_aload_n hx hb dX6_night_35 rfl (lv_at hl 0 rfl) ?_
        refine gf_7_13 F hW h.1 q_84 dX6_night_36 ?_
        replace h := h.2
        obtain ⟨r42, er⟩ : ∃ z, z = mR u 237 v0 := ⟨_, rfl⟩
        rw [← er]
        replace h := h r42 er
        clear er
        refine lv_iload_n hx hb dX6_night_39 rfl (lv_at hl 2 rfl) ?_
        obtain ⟨a43, ea, h⟩ := h
        subst ea
        refine rIald F hW h.1 h.2.1 dX6_night_40 ?_
        replace h := h.2.2
        refine lv_iconst (v := (3 : Int32)) hx hb dX6_night_41 (by decide) ?_
        refine lv_icmp_ne (tgt := 49) hx hb dX6_night_42 (by decide) (fun hc44 => ?_) (fun hc44 => ?_)
        · have h := h.2 hc44
          exact t_X6_night_49 v0 F hr K J23 hJ23 v2 u _ _ _ h hW (lv_sub hl [0, 2] rfl)
        · have h := h.1 hc44
          refine lv_iconst (v := (1 : Int32)) hx hb dX6_night_45 (by decide) ?_
          refine lv_goto (tgt := 50) hx hb dX6_night_46 (by decide) ?_
          exact t_X6_night_50 v0 F hr K J23 hJ23 v2 (1 : Int32) u _ _ _ h hW (lv_sub hl [0, 2] rfl)
set_option maxHeartbeats 4000000 in
set_option maxRecDepth 100000 in
theorem t_X6_night_20 {p : Program} {l : Launch} {e : Env} {s : State} {m : MethodId} {below : List Frame} {meth : Method} {c : Code} {G : Ctx} (v0 : Nat) (F : Fx p l s m ([.ref v0]).toArray meth c cX6_night 4 RX6 G) (hr : meth.sig.returnType = (some .int)) (K : Int32 → Mem → Prop) : ∀ (s0 : Int32) (u : Mem) (H : Heap) (locs : List Loc) (ls : Array Slot), w_X6_night_20 G v0 K s0 u → Wd G u s H locs → lv_has ls 4 [(0, .ref v0)] → W p l e { frames := 1, cells := 0, slots := 0, locals := 21 } s m ([.ref v0]).toArray below meth c H locs 0 0 (MQ below (va_Qi K (fun u' t => Wp G u' t.heap) (Ab G)) ([.ref v0]).toArray s 0 0 (Ab G)) (F0 m 20 ls [.int s0]) := by
  have hx := F.1.1
  have hb := F.1.2.1
  intro s0 u H locs ls h hW hl
  unfold w_X6_night_20 at h
  refine lv_istore_n (lv' := [(1, .int s0), (0, .ref v0)]) hx hb dX6_night_20 rfl hl (by decide) rfl (fun ls hl9 => ?_)
  replace hl := hl9
  clear hl9
  refine lv_iconst (v := (0 : Int32)) hx hb dX6_night_21 (by decide) ?_
  refine lv_istore_n (lv' := [(2, .int (0 : Int32)), (1, .int s0), (0, .ref v0)]) hx hb dX6_night_22 rfl hl (by decide) rfl (fun ls hl9 => ?_)
  replace hl := hl9
  clear hl9
  obtain ⟨n, h⟩ := h
  exact t_X6_night_23 v0 F hr K n s0 (0 : Int32) u _ _ _ h hW (lv_sub hl [2, 1, 0] rfl)
set_option maxHeartbeats 4000000 in
set_option maxRecDepth 100000 in
theorem c_X6_night {l : Launch} (hst : l.stackTraces = false) (G : Ctx) (v0 : Nat) (u : Mem) (K : Int32 → Mem → Prop) (h : w_X6_night G v0 u K) : CtI l yX6_night (.code yX6_night cX6_night 4 (some .int)) 1 21 0 0 G [.ref v0] u K := by
  refine entM (by first | decide | decide +kernel) hst (by first | decide | exact Nat.le_of_ble_eq_true rfl) (fun p e s m below meth c ls F hr hnm hW hl => ?_)
  have F : Fx p l s m ([.ref v0]).toArray meth c cX6_night 4 RX6 G := F
  have hnm : meth.name = "night" := hnm
  have hl : lv_has ls 4 [(0, .ref v0)] := hl
  have hx := F.1.1
  have hb := F.1.2.1
  unfold w_X6_night at h
  refine lv_aload_n hx hb dX6_night_0 rfl (lv_at hl 0 rfl) ?_
  refine lv_iconst (v := (0 : Int32)) hx hb dX6_night_1 (by decide) ?_
  refine pf_7_0 F hW (x := (0 : Int32)) h.1 q_118 dX6_night_2 (fun H locs hW => ?_)
  replace h := h.2
  obtain ⟨u1, eu⟩ : ∃ z, z = setI u 224 v0 (0 : Int32) := ⟨_, rfl⟩
  rw [← eu] at hW
  replace h := h u1 eu
  clear eu
  refine lv_aload_n hx hb dX6_night_5 rfl (lv_at hl 0 rfl) ?_
  refine gf_7_1 F hW h.1 q_388 dX6_night_6 ?_
  replace h := h.2
  refine lv_sipush (v := (1000 : Int32)) hx hb dX6_night_9 (by decide) ?_
  refine lv_icmp_ge (tgt := 19) hx hb dX6_night_12 (by decide) (fun hc2 => ?_) (fun hc2 => ?_)
  · have h := h.1 hc2
    refine lv_iconst (v := (0 : Int32)) hx hb dX6_night_19 (by decide) ?_
    exact t_X6_night_20 v0 F hr K (0 : Int32) u1 _ _ _ h hW (lv_sub hl [0] rfl)
  · have h := h.2 hc2
    refine lv_iconst (v := (1 : Int32)) hx hb dX6_night_15 (by decide) ?_
    refine lv_goto (tgt := 20) hx hb dX6_night_16 (by decide) ?_
    exact t_X6_night_20 v0 F hr K (1 : Int32) u1 _ _ _ h hW (lv_sub hl [0] rfl)
set_option maxHeartbeats 4000000 in
set_option maxRecDepth 100000 in
theorem t_X6_sends_113 {p : Program} {l : Launch} {e : Env} {s : State} {m : MethodId} {below : List Frame} {meth : Method} {c : Code} {G : Ctx} (v0 : Nat) (v1 : Int32) (F : Fx p l s m ([.ref v0, .int v1]).toArray meth c cX6_sends 7 RX6 G) (hr : meth.sig.returnType = none) (K : Mem → Prop) (J4 : Int32 → Int32 → Mem → Prop) (hJ4 : ∀ (v2 : Int32) (v3 : Int32) (u : Mem) (H : Heap) (locs : List Loc) (ls : Array Slot), J4 v2 v3 u → Wd G u s H locs → lv_has ls 7 [(0, .ref v0), (1, .int v1), (2, .int v2), (3, .int v3)] → W p l e { frames := 1, cells := 0, slots := 0, locals := 22 } s m ([.ref v0, .int v1]).toArray below meth c H locs 0 0 (MQ below (va_Qv K (fun u' t => Wp G u' t.heap) (Ab G)) ([.ref v0, .int v1]).toArray s 0 0 (Ab G)) (F0 m 4 ls [])) : ∀ (v3 : Int32) (s0 : Int32) (u : Mem) (H : Heap) (locs : List Loc) (ls : Array Slot), w_X6_sends_113 G v0 v1 K J4 v3 s0 u → Wd G u s H locs → lv_has ls 7 [(0, .ref v0), (1, .int v1), (3, .int v3)] → W p l e { frames := 1, cells := 0, slots := 0, locals := 22 } s m ([.ref v0, .int v1]).toArray below meth c H locs 0 0 (MQ below (va_Qv K (fun u' t => Wp G u' t.heap) (Ab G)) ([.ref v0, .int v1]).toArray s 0 0 (Ab G)) (F0 m 113 ls [.int s0]) := by
  have hx := F.1.1
  have hb := F.1.2.1
  intro v3 s0 u H locs ls h hW hl
  unfold w_X6_sends_113 at h
  refine lv_istore_n (lv' := [(2, .int s0), (0, .ref v0), (1, .int v1), (3, .int v3)]) hx hb dX6_sends_113 rfl hl (by decide) rfl (fun ls hl9 => ?_)
  replace hl := hl9
  clear hl9
  refine lv_iinc (v := (v3 + 1)) (lv' := [(3, .int (v3 + 1)), (2, .int s0), (0, .ref v0), (1, .int v1)]) hx hb dX6_sends_114 hl (k := 3) rfl rfl (by decide) rfl (fun ls hl9 => ?_)
  replace hl := hl9
  clear hl9
  refine lv_goto (tgt := 4) hx hb dX6_sends_117 (by decide) ?_
  exact hJ4 s0 (v3 + 1) u _ _ _ h hW (lv_sub hl [2, 3, 1, 0] rfl)
set_option maxHeartbeats 4000000 in
set_option maxRecDepth 100000 in
theorem t_X6_sends_112 {p : Program} {l : Launch} {e : Env} {s : State} {m : MethodId} {below : List Frame} {meth : Method} {c : Code} {G : Ctx} (v0 : Nat) (v1 : Int32) (F : Fx p l s m ([.ref v0, .int v1]).toArray meth c cX6_sends 7 RX6 G) (hr : meth.sig.returnType = none) (K : Mem → Prop) (J4 : Int32 → Int32 → Mem → Prop) (hJ4 : ∀ (v2 : Int32) (v3 : Int32) (u : Mem) (H : Heap) (locs : List Loc) (ls : Array Slot), J4 v2 v3 u → Wd G u s H locs → lv_has ls 7 [(0, .ref v0), (1, .int v1), (2, .int v2), (3, .int v3)] → W p l e { frames := 1, cells := 0, slots := 0, locals := 22 } s m ([.ref v0, .int v1]).toArray below meth c H locs 0 0 (MQ below (va_Qv K (fun u' t => Wp G u' t.heap) (Ab G)) ([.ref v0, .int v1]).toArray s 0 0 (Ab G)) (F0 m 4 ls [])) : ∀ (v2 : Int32) (v3 : Int32) (u : Mem) (H : Heap) (locs : List Loc) (ls : Array Slot), w_X6_sends_112 G v0 v1 K J4 v2 v3 u → Wd G u s H locs → lv_has ls 7 [(0, .ref v0), (1, .int v1), (2, .int v2), (3, .int v3)] → W p l e { frames := 1, cells := 0, slots := 0, locals := 22 } s m ([.ref v0, .int v1]).toArray below meth c H locs 0 0 (MQ below (va_Qv K (fun u' t => Wp G u' t.heap) (Ab G)) ([.ref v0, .int v1]).toArray s 0 0 (Ab G)) (F0 m 112 ls []) := by
  have hx := F.1.1
  have hb := F.1.2.1
  intro v2 v3 u H locs ls h hW hl
  unfold w_X6_sends_112 at h
  refine lv_iload_n hx hb dX6_sends_112 rfl (lv_at hl 2 rfl) ?_
  exact t_X6_sends_113 v0 v1 F hr K J4 hJ4 v3 v2 u _ _ _ h hW (lv_sub hl [0, 1, 3] rfl)
set_option maxHeartbeats 4000000 in
set_option maxRecDepth 100000 in
theorem t_X6_sends_92 {p : Program} {l : Launch} {e : Env} {s : State} {m : MethodId} {below : List Frame} {meth : Method} {c : Code} {G : Ctx} (v0 : Nat) (v1 : Int32) (F : Fx p l s m ([.ref v0, .int v1]).toArray meth c cX6_sends 7 RX6 G) (hr : meth.sig.returnType = none) (K : Mem → Prop) (J4 : Int32 → Int32 → Mem → Prop) (hJ4 : ∀ (v2 : Int32) (v3 : Int32) (u : Mem) (H : Heap) (locs : List Loc) (ls : Array Slot), J4 v2 v3 u → Wd G u s H locs → lv_has ls 7 [(0, .ref v0), (1, .int v1), (2, .int v2), (3, .int v3)] → W p l e { frames := 1, cells := 0, slots := 0, locals := 22 } s m ([.ref v0, .int v1]).toArray below meth c H locs 0 0 (MQ below (va_Qv K (fun u' t => Wp G u' t.heap) (Ab G)) ([.ref v0, .int v1]).toArray s 0 0 (Ab G)) (F0 m 4 ls [])) : ∀ (v2 : Int32) (v3 : Int32) (s0 : Int32) (u : Mem) (H : Heap) (locs : List Loc) (ls : Array Slot), w_X6_sends_92 G v0 v1 K J4 v2 v3 s0 u → Wd G u s H locs → lv_has ls 7 [(0, .ref v0), (1, .int v1), (2, .int v2), (3, .int v3)] → W p l e { frames := 1, cells := 0, slots := 0, locals := 22 } s m ([.ref v0, .int v1]).toArray below meth c H locs 0 0 (MQ below (va_Qv K (fun u' t => Wp G u' t.heap) (Ab G)) ([.ref v0, .int v1]).toArray s 0 0 (Ab G)) (F0 m 92 ls [.int s0]) := by
  have hx := F.1.1
  have hb := F.1.2.1
  intro v2 v3 s0 u H locs ls h hW hl
  unfold w_X6_sends_92 at h
  refine lv_istore (lv' := [(6, .int s0), (0, .ref v0), (1, .int v1), (2, .int v2), (3, .int v3)]) hx hb dX6_sends_92 hl (by decide) rfl (fun ls hl9 => ?_)
  replace hl := hl9
  clear hl9
  refine lv_aload_n hx hb dX6_sends_94 rfl (lv_at hl 1 rfl) ?_
  refine gf_7_9 F hW h.1 q_81 dX6_sends_95 ?_
  replace h := h.2
  obtain ⟨r73, er⟩ : ∃ z, z = mR u 233 v0 := ⟨_, rfl⟩
  rw [← er]
  replace h := h r73 er
  clear er
  refine lv_iload_n hx hb dX6_sends_98 rfl (lv_at hl 4 rfl) ?_
  obtain ⟨a74, ea, h⟩ := h
  subst ea
  refine rZald F hW h.1 h.2.1 dX6_sends_99 ?_
  replace h := h.2.2
  refine lv_if_ne (tgt := 112) hx hb dX6_sends_100 (by decide) (fun hc75 => ?_) (fun hc75 => ?_)
  · have h := h.2 hc75
    exact t_X6_sends_112 v0 v1 F hr K J4 hJ4 v2 v3 u _ _ _ h hW (lv_sub hl [1, 2, 3, 4] rfl)
  · have h := h.1 hc75
    refine lv_iload hx hb dX6_sends_103 (lv_at hl 0 rfl) ?_
    refine lv_if_eq (tgt := 112) hx hb dX6_sends_105 (by decide) (fun hc76 => ?_) (fun hc76 => ?_)
    · have h := h.1 hc76
      exact t_X6_sends_112 v0 v1 F hr K J4 hJ4 v2 v3 u _ _ _ h hW (lv_sub hl [1, 2, 3, 4] rfl)
    · have h := h.2 hc76
      refine lv_iload_n hx hb dX6_sends_108 rfl (lv_at hl 4 rfl) ?_
      refine lv_goto (tgt := 113) hx hb dX6_sends_109 (by decide) ?_
      exact t_X6_sends_113 v0 v1 F hr K J4 hJ4 v3 v3 u _ _ _ h hW (lv_sub hl [1, 2, 4] rfl)
set_option maxHeartbeats 4000000 in
set_option maxRecDepth 100000 in
theorem t_X6_sends_87 {p : Program} {l : Launch} {e : Env} {s : State} {m : MethodId} {below : List Frame} {meth : Method} {c : Code} {G : Ctx} (v0 : Nat) (v1 : Int32) (F : Fx p l s m ([.ref v0, .int v1]).toArray meth c cX6_sends 7 RX6 G) (hr : meth.sig.returnType = none) (K : Mem → Prop) (J4 : Int32 → Int32 → Mem → Prop) (hJ4 : ∀ (v2 : Int32) (v3 : Int32) (u : Mem) (H : Heap) (locs : List Loc) (ls : Array Slot), J4 v2 v3 u → Wd G u s H locs → lv_has ls 7 [(0, .ref v0), (1, .int v1), (2, .int v2), (3, .int v3)] → W p l e { frames := 1, cells := 0, slots := 0, locals := 22 } s m ([.ref v0, .int v1]).toArray below meth c H locs 0 0 (MQ below (va_Qv K (fun u' t => Wp G u' t.heap) (Ab G)) ([.ref v0, .int v1]).toArray s 0 0 (Ab G)) (F0 m 4 ls [])) : ∀ (v2 : Int32) (v3 : Int32) (u : Mem) (H : Heap) (locs : List Loc) (ls : Array Slot), w_X6_sends_87 G v0 v1 K J4 v2 v3 u → Wd G u s H locs → lv_has ls 7 [(0, .ref v0), (1, .int v1), (2, .int v2), (3, .int v3)] → W p l e { frames := 1, cells := 0, slots := 0, locals := 22 } s m ([.ref v0, .int v1]).toArray below meth c H locs 0 0 (MQ below (va_Qv K (fun u' t => Wp G u' t.heap) (Ab G)) ([.ref v0, .int v1]).toArray s 0 0 (Ab G)) (F0 m 87 ls []) := by
  have hx := F.1.1
  have hb := F.1.2.1
  intro v2 v3 u H locs ls h hW hl
  unfold w_X6_sends_87 at h
  refine lv_iconst (v := (1 : Int32)) hx hb dX6_sends_87 (by decide) ?_
  refine lv_goto (tgt := 92) hx hb dX6_sends_88 (by decide) ?_
  exact t_X6_sends_92 v0 v1 F hr K J4 hJ4 v2 v3 (1 : Int32) u _ _ _ h hW (lv_sub hl [0, 1, 2, 3] rfl)
set_option maxHeartbeats 4000000 in
set_option maxRecDepth 100000 in
theorem t_X6_sends_91 {p : Program} {l : Launch} {e : Env} {s : State} {m : MethodId} {below : List Frame} {meth : Method} {c : Code} {G : Ctx} (v0 : Nat) (v1 : Int32) (F : Fx p l s m ([.ref v0, .int v1]).toArray meth c cX6_sends 7 RX6 G) (hr : meth.sig.returnType = none) (K : Mem → Prop) (J4 : Int32 → Int32 → Mem → Prop) (hJ4 : ∀ (v2 : Int32) (v3 : Int32) (u : Mem) (H : Heap) (locs : List Loc) (ls : Array Slot), J4 v2 v3 u → Wd G u s H locs → lv_has ls 7 [(0, .ref v0), (1, .int v1), (2, .int v2), (3, .int v3)] → W p l e { frames := 1, cells := 0, slots := 0, locals := 22 } s m ([.ref v0, .int v1]).toArray below meth c H locs 0 0 (MQ below (va_Qv K (fun u' t => Wp G u' t.heap) (Ab G)) ([.ref v0, .int v1]).toArray s 0 0 (Ab G)) (F0 m 4 ls [])) : ∀ (v2 : Int32) (v3 : Int32) (u : Mem) (H : Heap) (locs : List Loc) (ls : Array Slot), w_X6_sends_91 G v0 v1 K J4 v2 v3 u → Wd G u s H locs → lv_has ls 7 [(0, .ref v0), (1, .int v1), (2, .int v2), (3, .int v3)] → W p l e { frames := 1, cells := 0, slots := 0, locals := 22 } s m ([.ref v0, .int v1]).toArray below meth c H locs 0 0 (MQ below (va_Qv K (fun u' t => Wp G u' t.heap) (Ab G)) ([.ref v0, .int v1]).toArray s 0 0 (Ab G)) (F0 m 91 ls []) := by
  have hx := F.1.1
  have hb := F.1.2.1
  intro v2 v3 u H locs ls h hW hl
  unfold w_X6_sends_91 at h
  refine lv_iconst (v := (0 : Int32)) hx hb dX6_sends_91 (by decide) ?_
  exact t_X6_sends_92 v0 v1 F hr K J4 hJ4 v2 v3 (0 : Int32) u _ _ _ h hW (lv_sub hl [0, 1, 2, 3] rfl)
set_option maxHeartbeats 4000000 in
set_option maxRecDepth 100000 in
theorem t_X6_sends_51 {p : Program} {l : Launch} {e : Env} {s : State} {m : MethodId} {below : List Frame} {meth : Method} {c : Code} {G : Ctx} (v0 : Nat) (v1 : Int32) (F : Fx p l s m ([.ref v0, .int v1]).toArray meth c cX6_sends 7 RX6 G) (hr : meth.sig.returnType = none) (K : Mem → Prop) (J4 : Int32 → Int32 → Mem → Prop) (hJ4 : ∀ (v2 : Int32) (v3 : Int32) (u : Mem) (H : Heap) (locs : List Loc) (ls : Array Slot), J4 v2 v3 u → Wd G u s H locs → lv_has ls 7 [(0, .ref v0), (1, .int v1), (2, .int v2), (3, .int v3)] → W p l e { frames := 1, cells := 0, slots := 0, locals := 22 } s m ([.ref v0, .int v1]).toArray below meth c H locs 0 0 (MQ below (va_Qv K (fun u' t => Wp G u' t.heap) (Ab G)) ([.ref v0, .int v1]).toArray s 0 0 (Ab G)) (F0 m 4 ls [])) : ∀ (v2 : Int32) (v3 : Int32) (v4 : Int32) (s0 : Int32) (u : Mem) (H : Heap) (locs : List Loc) (ls : Array Slot), w_X6_sends_51 G v0 v1 K J4 v2 v3 v4 s0 u → Wd G u s H locs → lv_has ls 7 [(0, .ref v0), (1, .int v1), (2, .int v2), (3, .int v3), (4, .int v4)] → W p l e { frames := 1, cells := 0, slots := 0, locals := 22 } s m ([.ref v0, .int v1]).toArray below meth c H locs 0 0 (MQ below (va_Qv K (fun u' t => Wp G u' t.heap) (Ab G)) ([.ref v0, .int v1]).toArray s 0 0 (Ab G)) (F0 m 51 ls [.int s0]) := by
  have hx := F.1.1
  have hb := F.1.2.1
  intro v2 v3 v4 s0 u H locs ls h hW hl
  unfold w_X6_sends_51 at h
  refine lv_istore (lv' := [(5, .int s0), (0, .ref v0), (1, .int v1), (2, .int v2), (3, .int v3), (4, .int v4)]) hx hb dX6_sends_51 hl (by decide) rfl (fun ls hl9 => ?_)
  replace hl := hl9
  clear hl9
  refine lv_iload_n hx hb dX6_sends_53 rfl (lv_at hl 3 rfl) ?_
  refine lv_iconst (v := (-1 : Int32)) hx hb dX6_sends_54 (by decide) ?_
  refine lv_icmp_eq (tgt := 87) hx hb dX6_sends_55 (by decide) (fun hc77 => ?_) (fun hc77 => ?_)
  · have h := h.1 hc77
    exact t_X6_sends_87 v0 v1 F hr K J4 hJ4 v2 v3 u _ _ _ h hW (lv_sub hl [1, 2, 3, 4] rfl)
  · have h := h.2 hc77
    refine lv_iload hx hb dX6_sends_58 (lv_at hl 5 rfl) ?_
    refine lv_iload hx hb dX6_sends_60 (lv_at hl 0 rfl) ?_
    refine lv_icmp_lt (tgt := 87) hx hb dX6_sends_62 (by decide) (fun hc78 => ?_) (fun hc78 => ?_)
    · have h := h.1 hc78
      exact t_X6_sends_87 v0 v1 F hr K J4 hJ4 v2 v3 u _ _ _ h hW (lv_sub hl [1, 2, 3, 4] rfl)
    · have h := h.2 hc78
      refine lv_iload hx hb dX6_sends_65 (lv_at hl 5 rfl) ?_
      refine lv_iload hx hb dX6_sends_67 (lv_at hl 0 rfl) ?_
      refine lv_icmp_ne (tgt := 91) hx hb dX6_sends_69 (by decide) (fun hc79 => ?_) (fun hc79 => ?_)
      · have h := h.2 hc79
        exact t_X6_sends_91 v0 v1 F hr K J4 hJ4 v2 v3 u _ _ _ h hW (lv_sub hl [1, 2, 3, 4] rfl)
      · have h := h.1 hc79
        refine lv_aload_n hx hb dX6_sends_72 rfl (lv_at hl 1 rfl) ?_
        refine gf_7_8 F hW h.1 q_80 dX6_sends_73 ?_
        replace h := h.2
        obtain ⟨r80, er⟩ : ∃ z, z = mR u 232 v0 := ⟨_, rfl⟩
        rw [← er]
        replace h := h r80 er
        clear er
        refine lv_iload_n hx hb dX6_sends_76 rfl (lv_at hl 4 rfl) ?_
        obtain ⟨a81, ea, h⟩ := h
        subst ea
        refine rIald F hW h.1 h.2.1 dX6_sends_77 ?_
        replace h := h.2.2
        refine lv_aload_n hx hb dX6_sends_78 rfl (lv_at hl 1 rfl) ?_
        refine gf_7_8 F hW h.1 q_80 dX6_sends_79 ?_
        replace h := h.2
        obtain ⟨r82, er⟩ : ∃ z, z = mR u 232 v0 := ⟨_, rfl⟩
        rw [← er]
        replace h := h r82 er
        clear er
        refine lv_iload_n hx hb dX6_sends_82 rfl (lv_at hl 3 rfl) ?_
        obtain ⟨a83, ea, h⟩ := h
        subst ea
        refine rIald F hW h.1 h.2.1 dX6_sends_83 ?_
        replace h := h.2.2
        refine lv_icmp_le (tgt := 91) hx hb dX6_sends_84 (by decide) (fun hc84 => ?_) (fun hc84 => ?_)
        · have h := h.1 hc84
          exact t_X6_sends_91 v0 v1 F hr K J4 hJ4 v2 v3 u _ _ _ h hW (lv_sub hl [1, 2, 3, 4] rfl)
        · have h := h.2 hc84
          exact t_X6_sends_87 v0 v1 F hr K J4 hJ4 v2 v3 u _ _ _ h hW (lv_sub hl [1, 2, 3, 4] rfl)
set_option maxHeartbeats 4000000 in
set_option maxRecDepth 100000 in
theorem t_X6_sends_4 {p : Program} {l : Launch} {e : Env} {s : State} {m : MethodId} {below : List Frame} {meth : Method} {c : Code} {G : Ctx} (v0 : Nat) (v1 : Int32) (F : Fx p l s m ([.ref v0, .int v1]).toArray meth c cX6_sends 7 RX6 G) (hr : meth.sig.returnType = none) (K : Mem → Prop) : ∀ (n : Nat), ∀ (v2 : Int32) (v3 : Int32) (u : Mem) (H : Heap) (locs : List Loc) (ls : Array Slot), w_X6_sends_4 G v0 v1 K n v2 v3 u → Wd G u s H locs → lv_has ls 7 [(0, .ref v0), (1, .int v1), (2, .int v2), (3, .int v3)] → W p l e { frames := 1, cells := 0, slots := 0, locals := 22 } s m ([.ref v0, .int v1]).toArray below meth c H locs 0 0 (MQ below (va_Qv K (fun u' t => Wp G u' t.heap) (Ab G)) ([.ref v0, .int v1]).toArray s 0 0 (Ab G)) (F0 m 4 ls []) := by
  have hx := F.1.1
  have hb := F.1.2.1
  intro n
  induction n with
  | zero =>
    intro v2 v3 u H locs ls h hW hl
    exact h.elim
  | succ n hJ4 =>
    intro v2 v3 u H locs ls h hW hl
    have h : b_X6_sends_4 G v0 v1 K (w_X6_sends_4 G v0 v1 K n) v2 v3 u := h
    revert h
    generalize w_X6_sends_4 G v0 v1 K n = J4 at hJ4 ⊢
    intro h
    unfold b_X6_sends_4 at h
    refine lv_iload_n hx hb dX6_sends_4 rfl (lv_at hl 3 rfl) ?_
    refine lv_iconst (v := (4 : Int32)) hx hb dX6_sends_5 (by decide) ?_
    refine lv_icmp_ge (tgt := 120) hx hb dX6_sends_6 (by decide) (fun hc85 => ?_) (fun hc85 => ?_)
    · have h := h.1 hc85
      refine lv_iload_n hx hb dX6_sends_120 rfl (lv_at hl 2 rfl) ?_
      refine lv_iconst (v := (-1 : Int32)) hx hb dX6_sends_121 (by decide) ?_
      refine lv_icmp_eq (tgt := 146) hx hb dX6_sends_122 (by decide) (fun hc86 => ?_) (fun hc86 => ?_)
      · have h := h.1 hc86
        exact retV F hr hW h dX6_sends_146
      · have h := h.2 hc86
        refine lv_aload_n hx hb dX6_sends_125 rfl (lv_at hl 0 rfl) ?_
        refine gf_7_14 F hW h.1 q_85 dX6_sends_126 ?_
        replace h := h.2
        obtain ⟨r87, er⟩ : ∃ z, z = mR u 238 v0 := ⟨_, rfl⟩
        rw [← er]
        replace h := h r87 er
        clear er
        refine lv_iload_n hx hb dX6_sends_129 rfl (lv_at hl 1 rfl) ?_
        refine lv_iload_n hx hb dX6_sends_130 rfl (lv_at hl 2 rfl) ?_
        obtain ⟨a88, ea, h⟩ := h
        subst ea
        refine rIast F hW h.1 h.2.1 dX6_sends_131 (fun H locs hW => ?_)
        replace h := h.2.2
        obtain ⟨u89, eu⟩ : ∃ z, z = setA u a88 (v1.toNatClampNeg) v2 := ⟨_, rfl⟩
        rw [← eu] at hW
        replace h := h u89 eu
        clear eu
        refine lv_aload_n hx hb dX6_sends_132 rfl (lv_at hl 0 rfl) ?_
        refine gf_7_13 F hW h.1 q_84 dX6_sends_133 ?_
        replace h := h.2
        obtain ⟨r90, er⟩ : ∃ z, z = mR u89 237 v0 := ⟨_, rfl⟩
        rw [← er]
        replace h := h r90 er
        clear er
        refine lv_iload_n hx hb dX6_sends_136 rfl (lv_at hl 1 rfl) ?_
        refine lv_iconst (v := (1 : Int32)) hx hb dX6_sends_137 (by decide) ?_
        obtain ⟨a91, ea, h⟩ := h
        subst ea
        refine rIast F hW h.1 h.2.1 dX6_sends_138 (fun H locs hW => ?_)
        replace h := h.2.2
        obtain ⟨u92, eu⟩ : ∃ z, z = setA u89 a91 (v1.toNatClampNeg) (1 : Int32) := ⟨_, rfl⟩
        rw [← eu] at hW
        replace h := h u92 eu
        clear eu
        refine lv_aload_n hx hb dX6_sends_139 rfl (lv_at hl 0 rfl) ?_
        refine gf_7_9 F hW h.1 q_81 dX6_sends_140 ?_
        replace h := h.2
        obtain ⟨r93, er⟩ : ∃ z, z = mR u92 233 v0 := ⟨_, rfl⟩
        rw [← er]
        replace h := h r93 er
        clear er
        refine lv_iload_n hx hb dX6_sends_143 rfl (lv_at hl 2 rfl) ?_
        refine lv_iconst (v := (1 : Int32)) hx hb dX6_sends_144 (by decide) ?_
        obtain ⟨a94, ea, h⟩ := h
        subst ea
        refine rZast F hW h.1 h.2.1 h.2.2.1 dX6_sends_145 (fun H locs hW => ?_)
        replace h := h.2.2.2
        obtain ⟨u95, eu⟩ : ∃ z, z = setA u92 a94 (v2.toNatClampNeg) (1 : Int32) := ⟨_, rfl⟩
        rw [← eu] at hW
        replace h := h u95 eu
        clear eu
        exact retV F hr hW h dX6_sends_146
    · have h := h.2 hc85
      refine lv_aload_n hx hb dX6_sends_9 rfl (lv_at hl 0 rfl) ?_
      refine gf_7_7 F hW h.1 q_79 dX6_sends_10 ?_
      replace h := h.2
      obtain ⟨r96, er⟩ : ∃ z, z = mR u 231 v0 := ⟨_, rfl⟩
      rw [← er]
      replace h := h r96 er
      clear er
      refine lv_iload_n hx hb dX6_sends_13 rfl (lv_at hl 3 rfl) ?_
      obtain ⟨a97, ea, h⟩ := h
      subst ea
      refine rIald F hW h.1 h.2.1 dX6_sends_14 ?_
      replace h := h.2.2
      refine lv_aload_n hx hb dX6_sends_15 rfl (lv_at hl 0 rfl) ?_
      refine gf_7_11 F hW h.1 q_82 dX6_sends_16 ?_
      replace h := h.2
      obtain ⟨r98, er⟩ : ∃ z, z = mR u 235 v0 := ⟨_, rfl⟩
      rw [← er]
      replace h := h r98 er
      clear er
      refine lv_iload_n hx hb dX6_sends_19 rfl (lv_at hl 1 rfl) ?_
      obtain ⟨a99, ea, h⟩ := h
      subst ea
      refine rIald F hW h.1 h.2.1 dX6_sends_20 ?_
      replace h := h.2.2
      refine cI (runS (n := 2) (As := [.int (mA u a97 v3.toNatClampNeg), .int (mA u a99 v1.toNatClampNeg)]) (rest := []) F hW (c_X6_length F.2.2.2 G (mA u a97 v3.toNatClampNeg) (mA u a99 v1.toNatClampNeg) u _ h) q_373 q_374 q_5 q_375 (by decide +kernel) ⟨Nat.le_of_ble_eq_true rfl, Nat.le_of_ble_eq_true rfl⟩ dX6_sends_21 rfl hl.1 (Nat.le_of_ble_eq_true rfl) ⟨Nat.zero_le _, Nat.zero_le _⟩) hW (fun r101 u100 h9 H locs hW => ?_)
      replace h := h9
      clear h9
      refine lv_istore (lv' := [(4, .int r101), (0, .ref v0), (1, .int v1), (2, .int v2), (3, .int v3)]) hx hb dX6_sends_24 hl (by decide) rfl (fun ls hl9 => ?_)
      replace hl := hl9
      clear hl9
      refine lv_iload_n hx hb dX6_sends_26 rfl (lv_at hl 3 rfl) ?_
      refine lv_iconst (v := (-1 : Int32)) hx hb dX6_sends_27 (by decide) ?_
      refine lv_icmp_ne (tgt := 36) hx hb dX6_sends_28 (by decide) (fun hc102 => ?_) (fun hc102 => ?_)
      · have h := h.2 hc102
        refine lv_aload_n hx hb dX6_sends_36 rfl (lv_at hl 1 rfl) ?_
        refine gf_7_7 F hW h.1 q_79 dX6_sends_37 ?_
        replace h := h.2
        obtain ⟨r103, er⟩ : ∃ z, z = mR u100 231 v0 := ⟨_, rfl⟩
        rw [← er]
        replace h := h r103 er
        clear er
        refine lv_iload_n hx hb dX6_sends_40 rfl (lv_at hl 3 rfl) ?_
        obtain ⟨a104, ea, h⟩ := h
        subst ea
        refine rIald F hW h.1 h.2.1 dX6_sends_41 ?_
        replace h := h.2.2
        refine lv_aload_n hx hb dX6_sends_42 rfl (lv_at hl 1 rfl) ?_
        refine gf_7_11 F hW h.1 q_82 dX6_sends_43 ?_
        replace h := h.2
        obtain ⟨r105, er⟩ : ∃ z, z = mR u100 235 v0 := ⟨_, rfl⟩
        rw [← er]
        replace h := h r105 er
        clear er
        refine lv_iload_n hx hb dX6_sends_46 rfl (lv_at hl 2 rfl) ?_
        obtain ⟨a106, ea, h⟩ := h
        subst ea
        refine rIald F hW h.1 h.2.1 dX6_sends_47 ?_
        replace h := h.2.2
        refine cI (runS (n := 2) (As := [.int (mA u100 a104 v2.toNatClampNeg), .int (mA u100 a106 v1.toNatClampNeg)]) (rest := []) F hW (c_X6_length F.2.2.2 G (mA u100 a104 v2.toNatClampNeg) (mA u100 a106 v1.toNatClampNeg) u100 _ h) q_373 q_374 q_5 q_375 (by decide +kernel) ⟨Nat.le_of_ble_eq_true rfl, Nat.le_of_ble_eq_true rfl⟩ dX6_sends_48 rfl hl.1 (Nat.le_of_ble_eq_true rfl) ⟨Nat.zero_le _, Nat.zero_le _⟩) hW (fun r108 u107 h9 H locs hW => ?_)
        replace h := h9
        clear h9
        exact t_X6_sends_51 v0 v1 F hr K J4 hJ4 v2 v3 r101 r108 u107 _ _ _ h hW (lv_sub hl [1, 2, 3, 4, 0] rfl)
      · have h := h.1 hc102
        refine lv_bipush (v := (8 : Int32)) hx hb dX6_sends_31 (by decide) ?_
        refine lv_goto (tgt := 51) hx hb dX6_sends_33 (by decide) ?_
        exact t_X6_sends_51 v0 v1 F hr K J4 hJ4 v2 v3 r101 (8 : Int32) u100 _ _ _ h hW (lv_sub hl [1, 2, 3, 4, 0] rfl)
set_option maxHeartbeats 4000000 in
set_option maxRecDepth 100000 in
theorem c_X6_sends {l : Launch} (hst : l.stackTraces = false) (G : Ctx) (v0 : Nat) (v1 : Int32) (u : Mem) (K : Mem → Prop) (h : w_X6_sends G v0 v1 u K) : CtV l yX6_sends (.code yX6_sends cX6_sends 7 none) 1 22 0 0 G [.ref v0, .int v1] u K := by
  refine entM (by first | decide | decide +kernel) hst (by first | decide | exact Nat.le_of_ble_eq_true rfl) (fun p e s m below meth c ls F hr hnm hW hl => ?_)
  have F : Fx p l s m ([.ref v0, .int v1]).toArray meth c cX6_sends 7 RX6 G := F
  have hnm : meth.name = "sends" := hnm
  have hl : lv_has ls 7 [(0, .ref v0), (1, .int v1)] := hl
  have hx := F.1.1
  have hb := F.1.2.1
  unfold w_X6_sends at h
  refine lv_iconst (v := (-1 : Int32)) hx hb dX6_sends_0 (by decide) ?_
  refine lv_istore_n (lv' := [(2, .int (-1 : Int32)), (0, .ref v0), (1, .int v1)]) hx hb dX6_sends_1 rfl hl (by decide) rfl (fun ls hl9 => ?_)
  replace hl := hl9
  clear hl9
  refine lv_iconst (v := (0 : Int32)) hx hb dX6_sends_2 (by decide) ?_
  refine lv_istore_n (lv' := [(3, .int (0 : Int32)), (2, .int (-1 : Int32)), (0, .ref v0), (1, .int v1)]) hx hb dX6_sends_3 rfl hl (by decide) rfl (fun ls hl9 => ?_)
  replace hl := hl9
  clear hl9
  obtain ⟨n, h⟩ := h
  exact t_X6_sends_4 v0 v1 F hr K n (-1 : Int32) (0 : Int32) u _ _ _ h hW (lv_sub hl [2, 3, 1, 0] rfl)
set_option maxHeartbeats 4000000 in
set_option maxRecDepth 100000 in
theorem t_X6_pass_133 {p : Program} {l : Launch} {e : Env} {s : State} {m : MethodId} {below : List Frame} {meth : Method} {c : Code} {G : Ctx} (v0 : Nat) (v1 : Int32) (F : Fx p l s m ([.ref v0, .int v1]).toArray meth c cX6_pass 5 RX6 G) (hr : meth.sig.returnType = (some .int)) (K : Int32 → Mem → Prop) (J43 : Int32 → Int32 → Mem → Prop) (hJ43 : ∀ (v2 : Int32) (v3 : Int32) (u : Mem) (H : Heap) (locs : List Loc) (ls : Array Slot), J43 v2 v3 u → Wd G u s H locs → lv_has ls 5 [(0, .ref v0), (1, .int v1), (2, .int v2), (3, .int v3)] → W p l e { frames := 3, cells := 0, slots := 0, locals := 72 } s m ([.ref v0, .int v1]).toArray below meth c H locs 0 0 (MQ below (va_Qi K (fun u' t => Wp G u' t.heap) (Ab G)) ([.ref v0, .int v1]).toArray s 0 0 (Ab G)) (F0 m 43 ls [])) (J85 : Int32 → Int32 → Int32 → Mem → Prop) (hJ85 : ∀ (v2 : Int32) (v3 : Int32) (v4 : Int32) (u : Mem) (H : Heap) (locs : List Loc) (ls : Array Slot), J85 v2 v3 v4 u → Wd G u s H locs → lv_has ls 5 [(0, .ref v0), (1, .int v1), (2, .int v2), (3, .int v3), (4, .int v4)] → W p l e { frames := 3, cells := 0, slots := 0, locals := 72 } s m ([.ref v0, .int v1]).toArray below meth c H locs 0 0 (MQ below (va_Qi K (fun u' t => Wp G u' t.heap) (Ab G)) ([.ref v0, .int v1]).toArray s 0 0 (Ab G)) (F0 m 85 ls [])) : ∀ (v2 : Int32) (v3 : Int32) (v4 : Int32) (u : Mem) (H : Heap) (locs : List Loc) (ls : Array Slot), w_X6_pass_133 G v0 v1 K J43 J85 v2 v3 v4 u → Wd G u s H locs → lv_has ls 5 [(0, .ref v0), (1, .int v1), (2, .int v2), (3, .int v3), (4, .int v4)] → W p l e { frames := 3, cells := 0, slots := 0, locals := 72 } s m ([.ref v0, .int v1]).toArray below meth c H locs 0 0 (MQ below (va_Qi K (fun u' t => Wp G u' t.heap) (Ab G)) ([.ref v0, .int v1]).toArray s 0 0 (Ab G)) (F0 m 133 ls []) := by
  have hx := F.1.1
  have hb := F.1.2.1
  intro v2 v3 v4 u H locs ls h hW hl
  unfold w_X6_pass_133 at h
  refine lv_iinc (v := (v4 + 1)) (lv' := [(4, .int (v4 + 1)), (0, .ref v0), (1, .int v1), (2, .int v2), (3, .int v3)]) hx hb dX6_pass_133 hl (k := 4) rfl rfl (by decide) rfl (fun ls hl9 => ?_)
  replace hl := hl9
  clear hl9
  refine lv_goto (tgt := 85) hx hb dX6_pass_136 (by decide) ?_
  exact hJ85 v2 v3 (v4 + 1) u _ _ _ h hW (lv_sub hl [1, 2, 3, 4, 0] rfl)
set_option maxHeartbeats 4000000 in
set_option maxRecDepth 100000 in
theorem t_X6_pass_131 {p : Program} {l : Launch} {e : Env} {s : State} {m : MethodId} {below : List Frame} {meth : Method} {c : Code} {G : Ctx} (v0 : Nat) (v1 : Int32) (F : Fx p l s m ([.ref v0, .int v1]).toArray meth c cX6_pass 5 RX6 G) (hr : meth.sig.returnType = (some .int)) (K : Int32 → Mem → Prop) (J43 : Int32 → Int32 → Mem → Prop) (hJ43 : ∀ (v2 : Int32) (v3 : Int32) (u : Mem) (H : Heap) (locs : List Loc) (ls : Array Slot), J43 v2 v3 u → Wd G u s H locs → lv_has ls 5 [(0, .ref v0), (1, .int v1), (2, .int v2), (3, .int v3)] → W p l e { frames := 3, cells := 0, slots := 0, locals := 72 } s m ([.ref v0, .int v1]).toArray below meth c H locs 0 0 (MQ below (va_Qi K (fun u' t => Wp G u' t.heap) (Ab G)) ([.ref v0, .int v1]).toArray s 0 0 (Ab G)) (F0 m 43 ls [])) (J85 : Int32 → Int32 → Int32 → Mem → Prop) (hJ85 : ∀ (v2 : Int32) (v3 : Int32) (v4 : Int32) (u : Mem) (H : Heap) (locs : List Loc) (ls : Array Slot), J85 v2 v3 v4 u → Wd G u s H locs → lv_has ls 5 [(0, .ref v0), (1, .int v1), (2, .int v2), (3, .int v3), (4, .int v4)] → W p l e { frames := 3, cells := 0, slots := 0, locals := 72 } s m ([.ref v0, .int v1]).toArray below meth c H locs 0 0 (MQ below (va_Qi K (fun u' t => Wp G u' t.heap) (Ab G)) ([.ref v0, .int v1]).toArray s 0 0 (Ab G)) (F0 m 85 ls [])) : ∀ (v3 : Int32) (v4 : Int32) (s0 : Int32) (s1 : Int32) (u : Mem) (H : Heap) (locs : List Loc) (ls : Array Slot), w_X6_pass_131 G v0 v1 K J43 J85 v3 v4 s0 s1 u → Wd G u s H locs → lv_has ls 5 [(0, .ref v0), (1, .int v1), (3, .int v3), (4, .int v4)] → W p l e { frames := 3, cells := 0, slots := 0, locals := 72 } s m ([.ref v0, .int v1]).toArray below meth c H locs 0 0 (MQ below (va_Qi K (fun u' t => Wp G u' t.heap) (Ab G)) ([.ref v0, .int v1]).toArray s 0 0 (Ab G)) (F0 m 131 ls [.int s0, .int s1]) := by
  have hx := F.1.1
  have hb := F.1.2.1
  intro v3 v4 s0 s1 u H locs ls h hW hl
  unfold w_X6_pass_131 at h
  refine lv_iadd hx hb dX6_pass_131 ?_
  refine lv_istore_n (lv' := [(2, .int (s1 + s0)), (0, .ref v0), (1, .int v1), (3, .int v3), (4, .int v4)]) hx hb dX6_pass_132 rfl hl (by decide) rfl (fun ls hl9 => ?_)
  replace hl := hl9
  clear hl9
  exact t_X6_pass_133 v0 v1 F hr K J43 hJ43 J85 hJ85 (s1 + s0) v3 v4 u _ _ _ h hW (lv_sub hl [1, 2, 0, 3, 4] rfl)
set_option maxHeartbeats 4000000 in
set_option maxRecDepth 100000 in
theorem t_X6_pass_116 {p : Program} {l : Launch} {e : Env} {s : State} {m : MethodId} {below : List Frame} {meth : Method} {c : Code} {G : Ctx} (v0 : Nat) (v1 : Int32) (F : Fx p l s m ([.ref v0, .int v1]).toArray meth c cX6_pass 5 RX6 G) (hr : meth.sig.returnType = (some .int)) (K : Int32 → Mem → Prop) (J43 : Int32 → Int32 → Mem → Prop) (hJ43 : ∀ (v2 : Int32) (v3 : Int32) (u : Mem) (H : Heap) (locs : List Loc) (ls : Array Slot), J43 v2 v3 u → Wd G u s H locs → lv_has ls 5 [(0, .ref v0), (1, .int v1), (2, .int v2), (3, .int v3)] → W p l e { frames := 3, cells := 0, slots := 0, locals := 72 } s m ([.ref v0, .int v1]).toArray below meth c H locs 0 0 (MQ below (va_Qi K (fun u' t => Wp G u' t.heap) (Ab G)) ([.ref v0, .int v1]).toArray s 0 0 (Ab G)) (F0 m 43 ls [])) (J85 : Int32 → Int32 → Int32 → Mem → Prop) (hJ85 : ∀ (v2 : Int32) (v3 : Int32) (v4 : Int32) (u : Mem) (H : Heap) (locs : List Loc) (ls : Array Slot), J85 v2 v3 v4 u → Wd G u s H locs → lv_has ls 5 [(0, .ref v0), (1, .int v1), (2, .int v2), (3, .int v3), (4, .int v4)] → W p l e { frames := 3, cells := 0, slots := 0, locals := 72 } s m ([.ref v0, .int v1]).toArray below meth c H locs 0 0 (MQ below (va_Qi K (fun u' t => Wp G u' t.heap) (Ab G)) ([.ref v0, .int v1]).toArray s 0 0 (Ab G)) (F0 m 85 ls [])) : ∀ (v2 : Int32) (v3 : Int32) (v4 : Int32) (u : Mem) (H : Heap) (locs : List Loc) (ls : Array Slot), w_X6_pass_116 G v0 v1 K J43 J85 v2 v3 v4 u → Wd G u s H locs → lv_has ls 5 [(0, .ref v0), (1, .int v1), (2, .int v2), (3, .int v3), (4, .int v4)] → W p l e { frames := 3, cells := 0, slots := 0, locals := 72 } s m ([.ref v0, .int v1]).toArray below meth c H locs 0 0 (MQ below (va_Qi K (fun u' t => Wp G u' t.heap) (Ab G)) ([.ref v0, .int v1]).toArray s 0 0 (Ab G)) (F0 m 116 ls []) := by
  have hx := F.1.1
  have hb := F.1.2.1
  intro v2 v3 v4 u H locs ls h hW hl
  unfold w_X6_pass_116 at h
  refine lv_iload_n hx hb dX6_pass_116 rfl (lv_at hl 2 rfl) ?_
  refine lv_aload_n hx hb dX6_pass_117 rfl (lv_at hl 0 rfl) ?_
  refine lv_iload hx hb dX6_pass_118 (lv_at hl 4 rfl) ?_
  obtain ⟨hob, h⟩ := h
  refine cI (runV (n := 1) (As := [.int v4]) (rest := [.int v2]) F hW (c_X6_goes F.2.2.2 G v0 v4 u _ h) hob (ci := 7) rfl q_376 q_377 q_378 q_5 q_379 rfl (by decide +kernel) ⟨Nat.le_of_ble_eq_true rfl, Nat.le_of_ble_eq_true rfl⟩ dX6_pass_120 rfl hl.1 (Nat.le_of_ble_eq_true rfl) ⟨Nat.zero_le _, Nat.zero_le _⟩) hW (fun r47 u46 h9 H locs hW => ?_)
  replace h := h9
  clear h9
  refine lv_if_eq (tgt := 130) hx hb dX6_pass_123 (by decide) (fun hc48 => ?_) (fun hc48 => ?_)
  · have h := h.1 hc48
    refine lv_iconst (v := (0 : Int32)) hx hb dX6_pass_130 (by decide) ?_
    exact t_X6_pass_131 v0 v1 F hr K J43 hJ43 J85 hJ85 v3 v4 (0 : Int32) v2 u46 _ _ _ h hW (lv_sub hl [0, 1, 3, 4] rfl)
  · have h := h.2 hc48
    refine lv_iconst (v := (1 : Int32)) hx hb dX6_pass_126 (by decide) ?_
    refine lv_goto (tgt := 131) hx hb dX6_pass_127 (by decide) ?_
    exact t_X6_pass_131 v0 v1 F hr K J43 hJ43 J85 hJ85 v3 v4 (1 : Int32) v2 u46 _ _ _ h hW (lv_sub hl [0, 1, 3, 4] rfl)
set_option maxHeartbeats 4000000 in
set_option maxRecDepth 100000 in
theorem t_X6_pass_85 {p : Program} {l : Launch} {e : Env} {s : State} {m : MethodId} {below : List Frame} {meth : Method} {c : Code} {G : Ctx} (v0 : Nat) (v1 : Int32) (F : Fx p l s m ([.ref v0, .int v1]).toArray meth c cX6_pass 5 RX6 G) (hr : meth.sig.returnType = (some .int)) (K : Int32 → Mem → Prop) (J43 : Int32 → Int32 → Mem → Prop) (hJ43 : ∀ (v2 : Int32) (v3 : Int32) (u : Mem) (H : Heap) (locs : List Loc) (ls : Array Slot), J43 v2 v3 u → Wd G u s H locs → lv_has ls 5 [(0, .ref v0), (1, .int v1), (2, .int v2), (3, .int v3)] → W p l e { frames := 3, cells := 0, slots := 0, locals := 72 } s m ([.ref v0, .int v1]).toArray below meth c H locs 0 0 (MQ below (va_Qi K (fun u' t => Wp G u' t.heap) (Ab G)) ([.ref v0, .int v1]).toArray s 0 0 (Ab G)) (F0 m 43 ls [])) : ∀ (n : Nat), ∀ (v2 : Int32) (v3 : Int32) (v4 : Int32) (u : Mem) (H : Heap) (locs : List Loc) (ls : Array Slot), w_X6_pass_85 G v0 v1 K J43 n v2 v3 v4 u → Wd G u s H locs → lv_has ls 5 [(0, .ref v0), (1, .int v1), (2, .int v2), (3, .int v3), (4, .int v4)] → W p l e { frames := 3, cells := 0, slots := 0, locals := 72 } s m ([.ref v0, .int v1]).toArray below meth c H locs 0 0 (MQ below (va_Qi K (fun u' t => Wp G u' t.heap) (Ab G)) ([.ref v0, .int v1]).toArray s 0 0 (Ab G)) (F0 m 85 ls []) := by
  have hx := F.1.1
  have hb := F.1.2.1
  intro n
  induction n with
  | zero =>
    intro v2 v3 v4 u H locs ls h hW hl
    exact h.elim
  | succ n hJ85 =>
    intro v2 v3 v4 u H locs ls h hW hl
    have h : b_X6_pass_85 G v0 v1 K J43 (w_X6_pass_85 G v0 v1 K J43 n) v2 v3 v4 u := h
    revert h
    generalize w_X6_pass_85 G v0 v1 K J43 n = J85 at hJ85 ⊢
    intro h
    unfold b_X6_pass_85 at h
    refine lv_iload hx hb dX6_pass_85 (lv_at hl 4 rfl) ?_
    refine lv_aload_n hx hb dX6_pass_87 rfl (lv_at hl 0 rfl) ?_
    refine gf_7_10 F hW h.1 q_273 dX6_pass_88 ?_
    replace h := h.2
    refine lv_icmp_ge (tgt := 139) hx hb dX6_pass_91 (by decide) (fun hc49 => ?_) (fun hc49 => ?_)
    · have h := h.1 hc49
      refine lv_iinc (v := (v3 + 1)) (lv' := [(3, .int (v3 + 1)), (0, .ref v0), (1, .int v1), (2, .int v2), (4, .int v4)]) hx hb dX6_pass_139 hl (k := 3) rfl rfl (by decide) rfl (fun ls hl9 => ?_)
      replace hl := hl9
      clear hl9
      refine lv_goto (tgt := 43) hx hb dX6_pass_142 (by decide) ?_
      exact hJ43 v2 (v3 + 1) u _ _ _ h hW (lv_sub hl [1, 2, 3, 0] rfl)
    · have h := h.2 hc49
      refine lv_aload_n hx hb dX6_pass_94 rfl (lv_at hl 0 rfl) ?_
      refine gf_7_13 F hW h.1 q_84 dX6_pass_95 ?_
      replace h := h.2
      obtain ⟨r50, er⟩ : ∃ z, z = mR u 237 v0 := ⟨_, rfl⟩
      rw [← er]
      replace h := h r50 er
      clear er
      refine lv_iload hx hb dX6_pass_98 (lv_at hl 4 rfl) ?_
      obtain ⟨a51, ea, h⟩ := h
      subst ea
      refine rIald F hW h.1 h.2.1 dX6_pass_100 ?_
      replace h := h.2.2
      refine lv_iconst (v := (1 : Int32)) hx hb dX6_pass_101 (by decide) ?_
      refine lv_icmp_eq (tgt := 116) hx hb dX6_pass_102 (by decide) (fun hc52 => ?_) (fun hc52 => ?_)
      · have h := h.1 hc52
        exact t_X6_pass_116 v0 v1 F hr K J43 hJ43 J85 hJ85 v2 v3 v4 u _ _ _ h hW (lv_sub hl [0, 1, 2, 3, 4] rfl)
      · have h := h.2 hc52
        refine lv_aload_n hx hb dX6_pass_105 rfl (lv_at hl 0 rfl) ?_
        refine gf_7_13 F hW h.1 q_84 dX6_pass_106 ?_
        replace h := h.2
        obtain ⟨r53, er⟩ : ∃ z, z = mR u 237 v0 := ⟨_, rfl⟩
        rw [← er]
        replace h := h r53 er
        clear er
        refine lv_iload hx hb dX6_pass_109 (lv_at hl 4 rfl) ?_
        obtain ⟨a54, ea, h⟩ := h
        subst ea
        refine rIald F hW h.1 h.2.1 dX6_pass_111 ?_
        replace h := h.2.2
        refine lv_iconst (v := (2 : Int32)) hx hb dX6_pass_112 (by decide) ?_
        refine lv_icmp_ne (tgt := 133) hx hb dX6_pass_113 (by decide) (fun hc55 => ?_) (fun hc55 => ?_)
        · have h := h.2 hc55
          exact t_X6_pass_133 v0 v1 F hr K J43 hJ43 J85 hJ85 v2 v3 v4 u _ _ _ h hW (lv_sub hl [0, 1, 2, 3, 4] rfl)
        · have h := h.1 hc55
          exact t_X6_pass_116 v0 v1 F hr K J43 hJ43 J85 hJ85 v2 v3 v4 u _ _ _ h hW (lv_sub hl [0, 1, 2, 3, 4] rfl)
set_option maxHeartbeats 4000000 in
set_option maxRecDepth 100000 in
theorem t_X6_pass_76 {p : Program} {l : Launch} {e : Env} {s : State} {m : MethodId} {below : List Frame} {meth : Method} {c : Code} {G : Ctx} (v0 : Nat) (v1 : Int32) (F : Fx p l s m ([.ref v0, .int v1]).toArray meth c cX6_pass 5 RX6 G) (hr : meth.sig.returnType = (some .int)) (K : Int32 → Mem → Prop) (J43 : Int32 → Int32 → Mem → Prop) (hJ43 : ∀ (v2 : Int32) (v3 : Int32) (u : Mem) (H : Heap) (locs : List Loc) (ls : Array Slot), J43 v2 v3 u → Wd G u s H locs → lv_has ls 5 [(0, .ref v0), (1, .int v1), (2, .int v2), (3, .int v3)] → W p l e { frames := 3, cells := 0, slots := 0, locals := 72 } s m ([.ref v0, .int v1]).toArray below meth c H locs 0 0 (MQ below (va_Qi K (fun u' t => Wp G u' t.heap) (Ab G)) ([.ref v0, .int v1]).toArray s 0 0 (Ab G)) (F0 m 43 ls [])) (J51 : Int32 → Int32 → Int32 → Mem → Prop) (hJ51 : ∀ (v2 : Int32) (v3 : Int32) (v4 : Int32) (u : Mem) (H : Heap) (locs : List Loc) (ls : Array Slot), J51 v2 v3 v4 u → Wd G u s H locs → lv_has ls 5 [(0, .ref v0), (1, .int v1), (2, .int v2), (3, .int v3), (4, .int v4)] → W p l e { frames := 3, cells := 0, slots := 0, locals := 72 } s m ([.ref v0, .int v1]).toArray below meth c H locs 0 0 (MQ below (va_Qi K (fun u' t => Wp G u' t.heap) (Ab G)) ([.ref v0, .int v1]).toArray s 0 0 (Ab G)) (F0 m 51 ls [])) : ∀ (v2 : Int32) (v3 : Int32) (v4 : Int32) (u : Mem) (H : Heap) (locs : List Loc) (ls : Array Slot), w_X6_pass_76 G v0 v1 K J43 J51 v2 v3 v4 u → Wd G u s H locs → lv_has ls 5 [(0, .ref v0), (1, .int v1), (2, .int v2), (3, .int v3), (4, .int v4)] → W p l e { frames := 3, cells := 0, slots := 0, locals := 72 } s m ([.ref v0, .int v1]).toArray below meth c H locs 0 0 (MQ below (va_Qi K (fun u' t => Wp G u' t.heap) (Ab G)) ([.ref v0, .int v1]).toArray s 0 0 (Ab G)) (F0 m 76 ls []) := by
  have hx := F.1.1
  have hb := F.1.2.1
  intro v2 v3 v4 u H locs ls h hW hl
  unfold w_X6_pass_76 at h
  refine lv_iinc (v := (v4 + 1)) (lv' := [(4, .int (v4 + 1)), (0, .ref v0), (1, .int v1), (2, .int v2), (3, .int v3)]) hx hb dX6_pass_76 hl (k := 4) rfl rfl (by decide) rfl (fun ls hl9 => ?_)
  replace hl := hl9
  clear hl9
  refine lv_goto (tgt := 51) hx hb dX6_pass_79 (by decide) ?_
  exact hJ51 v2 v3 (v4 + 1) u _ _ _ h hW (lv_sub hl [1, 2, 3, 4, 0] rfl)
set_option maxHeartbeats 4000000 in
set_option maxRecDepth 100000 in
theorem t_X6_pass_51 {p : Program} {l : Launch} {e : Env} {s : State} {m : MethodId} {below : List Frame} {meth : Method} {c : Code} {G : Ctx} (v0 : Nat) (v1 : Int32) (F : Fx p l s m ([.ref v0, .int v1]).toArray meth c cX6_pass 5 RX6 G) (hr : meth.sig.returnType = (some .int)) (K : Int32 → Mem → Prop) (J43 : Int32 → Int32 → Mem → Prop) (hJ43 : ∀ (v2 : Int32) (v3 : Int32) (u : Mem) (H : Heap) (locs : List Loc) (ls : Array Slot), J43 v2 v3 u → Wd G u s H locs → lv_has ls 5 [(0, .ref v0), (1, .int v1), (2, .int v2), (3, .int v3)] → W p l e { frames := 3, cells := 0, slots := 0, locals := 72 } s m ([.ref v0, .int v1]).toArray below meth c H locs 0 0 (MQ below (va_Qi K (fun u' t => Wp G u' t.heap) (Ab G)) ([.ref v0, .int v1]).toArray s 0 0 (Ab G)) (F0 m 43 ls [])) : ∀ (n : Nat), ∀ (v2 : Int32) (v3 : Int32) (v4 : Int32) (u : Mem) (H : Heap) (locs : List Loc) (ls : Array Slot), w_X6_pass_51 G v0 v1 K J43 n v2 v3 v4 u → Wd G u s H locs → lv_has ls 5 [(0, .ref v0), (1, .int v1), (2, .int v2), (3, .int v3), (4, .int v4)] → W p l e { frames := 3, cells := 0, slots := 0, locals := 72 } s m ([.ref v0, .int v1]).toArray below meth c H locs 0 0 (MQ below (va_Qi K (fun u' t => Wp G u' t.heap) (Ab G)) ([.ref v0, .int v1]).toArray s 0 0 (Ab G)) (F0 m 51 ls []) := by
  have hx := F.1.1
  have hb := F.1.2.1
  intro n
  induction n with
  | zero =>
    intro v2 v3 v4 u H locs ls h hW hl
    exact h.elim
  | succ n hJ51 =>
    intro v2 v3 v4 u H locs ls h hW hl
    have h : b_X6_pass_51 G v0 v1 K J43 (w_X6_pass_51 G v0 v1 K J43 n) v2 v3 v4 u := h
    revert h
    generalize w_X6_pass_51 G v0 v1 K J43 n = J51 at hJ51 ⊢
    intro h
    unfold b_X6_pass_51 at h
    refine lv_iload hx hb dX6_pass_51 (lv_at hl 4 rfl) ?_
    refine lv_aload_n hx hb dX6_pass_53 rfl (lv_at hl 0 rfl) ?_
    refine gf_7_10 F hW h.1 q_273 dX6_pass_54 ?_
    replace h := h.2
    refine lv_icmp_ge (tgt := 82) hx hb dX6_pass_57 (by decide) (fun hc56 => ?_) (fun hc56 => ?_)
    · have h := h.1 hc56
      refine lv_iconst (v := (0 : Int32)) hx hb dX6_pass_82 (by decide) ?_
      refine lv_istore (lv' := [(4, .int (0 : Int32)), (0, .ref v0), (1, .int v1), (2, .int v2), (3, .int v3)]) hx hb dX6_pass_83 hl (by decide) rfl (fun ls hl9 => ?_)
      replace hl := hl9
      clear hl9
      obtain ⟨n, h⟩ := h
      exact t_X6_pass_85 v0 v1 F hr K J43 hJ43 n v2 v3 (0 : Int32) u _ _ _ h hW (lv_sub hl [1, 2, 3, 4, 0] rfl)
    · have h := h.2 hc56
      refine lv_aload_n hx hb dX6_pass_60 rfl (lv_at hl 0 rfl) ?_
      refine gf_7_13 F hW h.1 q_84 dX6_pass_61 ?_
      replace h := h.2
      obtain ⟨r57, er⟩ : ∃ z, z = mR u 237 v0 := ⟨_, rfl⟩
      rw [← er]
      replace h := h r57 er
      clear er
      refine lv_iload hx hb dX6_pass_64 (lv_at hl 4 rfl) ?_
      obtain ⟨a58, ea, h⟩ := h
      subst ea
      refine rIald F hW h.1 h.2.1 dX6_pass_66 ?_
      replace h := h.2.2
      refine lv_if_ne (tgt := 76) hx hb dX6_pass_67 (by decide) (fun hc59 => ?_) (fun hc59 => ?_)
      · have h := h.2 hc59
        exact t_X6_pass_76 v0 v1 F hr K J43 hJ43 J51 hJ51 v2 v3 v4 u _ _ _ h hW (lv_sub hl [0, 1, 2, 3, 4] rfl)
      · have h := h.1 hc59
        refine lv_aload_n hx hb dX6_pass_70 rfl (lv_at hl 0 rfl) ?_
        refine lv_iload hx hb dX6_pass_71 (lv_at hl 4 rfl) ?_
        obtain ⟨hob, h⟩ := h
        refine cV (runV (n := 1) (As := [.int v4]) (rest := []) F hW (c_X6_sends F.2.2.2 G v0 v4 u _ h) hob (ci := 7) rfl q_369 q_370 q_371 q_5 q_372 rfl (by decide +kernel) ⟨Nat.le_of_ble_eq_true rfl, Nat.le_of_ble_eq_true rfl⟩ dX6_pass_73 rfl hl.1 (Nat.le_of_ble_eq_true rfl) ⟨Nat.zero_le _, Nat.zero_le _⟩) hW (fun u60 h9 H locs hW => ?_)
        replace h := h9
        clear h9
        exact t_X6_pass_76 v0 v1 F hr K J43 hJ43 J51 hJ51 v2 v3 v4 u60 _ _ _ h hW (lv_sub hl [0, 1, 2, 3, 4] rfl)
set_option maxHeartbeats 4000000 in
set_option maxRecDepth 100000 in
theorem t_X6_pass_43 {p : Program} {l : Launch} {e : Env} {s : State} {m : MethodId} {below : List Frame} {meth : Method} {c : Code} {G : Ctx} (v0 : Nat) (v1 : Int32) (F : Fx p l s m ([.ref v0, .int v1]).toArray meth c cX6_pass 5 RX6 G) (hr : meth.sig.returnType = (some .int)) (K : Int32 → Mem → Prop) : ∀ (n : Nat), ∀ (v2 : Int32) (v3 : Int32) (u : Mem) (H : Heap) (locs : List Loc) (ls : Array Slot), w_X6_pass_43 G v0 v1 K n v2 v3 u → Wd G u s H locs → lv_has ls 5 [(0, .ref v0), (1, .int v1), (2, .int v2), (3, .int v3)] → W p l e { frames := 3, cells := 0, slots := 0, locals := 72 } s m ([.ref v0, .int v1]).toArray below meth c H locs 0 0 (MQ below (va_Qi K (fun u' t => Wp G u' t.heap) (Ab G)) ([.ref v0, .int v1]).toArray s 0 0 (Ab G)) (F0 m 43 ls []) := by
  have hx := F.1.1
  have hb := F.1.2.1
  intro n
  induction n with
  | zero =>
    intro v2 v3 u H locs ls h hW hl
    exact h.elim
  | succ n hJ43 =>
    intro v2 v3 u H locs ls h hW hl
    have h : b_X6_pass_43 G v0 v1 K (w_X6_pass_43 G v0 v1 K n) v2 v3 u := h
    revert h
    generalize w_X6_pass_43 G v0 v1 K n = J43 at hJ43 ⊢
    intro h
    unfold b_X6_pass_43 at h
    refine lv_iload_n hx hb dX6_pass_43 rfl (lv_at hl 3 rfl) ?_
    refine lv_iload_n hx hb dX6_pass_44 rfl (lv_at hl 1 rfl) ?_
    refine lv_icmp_ge (tgt := 145) hx hb dX6_pass_45 (by decide) (fun hc62 => ?_) (fun hc62 => ?_)
    · have h := h.1 hc62
      refine lv_aload_n hx hb dX6_pass_145 rfl (lv_at hl 0 rfl) ?_
      refine lv_dup hx hb dX6_pass_146 rfl ?_
      refine gf_7_2 F hW h.1 q_368 dX6_pass_147 ?_
      replace h := h.2
      refine lv_iload_n hx hb dX6_pass_150 rfl (lv_at hl 1 rfl) ?_
      refine lv_iadd hx hb dX6_pass_151 ?_
      refine pf_7_2 F hW (x := ((mI u 226 v0) + v1)) h.1 q_368 dX6_pass_152 (fun H locs hW => ?_)
      replace h := h.2
      obtain ⟨u63, eu⟩ : ∃ z, z = setI u 226 v0 ((mI u 226 v0) + v1) := ⟨_, rfl⟩
      rw [← eu] at hW
      replace h := h u63 eu
      clear eu
      refine lv_iload_n hx hb dX6_pass_155 rfl (lv_at hl 2 rfl) ?_
      exact retI F hr hW h dX6_pass_156
    · have h := h.2 hc62
      refine lv_iconst (v := (0 : Int32)) hx hb dX6_pass_48 (by decide) ?_
      refine lv_istore (lv' := [(4, .int (0 : Int32)), (0, .ref v0), (1, .int v1), (2, .int v2), (3, .int v3)]) hx hb dX6_pass_49 hl (by decide) rfl (fun ls hl9 => ?_)
      replace hl := hl9
      clear hl9
      obtain ⟨n, h⟩ := h
      exact t_X6_pass_51 v0 v1 F hr K J43 hJ43 n v2 v3 (0 : Int32) u _ _ _ h hW (lv_sub hl [1, 2, 3, 4, 0] rfl)
set_option maxHeartbeats 4000000 in
set_option maxRecDepth 100000 in
theorem c_X6_pass {l : Launch} (hst : l.stackTraces = false) (G : Ctx) (v0 : Nat) (v1 : Int32) (u : Mem) (K : Int32 → Mem → Prop) (h : w_X6_pass G v0 v1 u K) : CtI l yX6_pass (.code yX6_pass cX6_pass 5 (some .int)) 3 72 0 0 G [.ref v0, .int v1] u K := by
  refine entM (by first | decide | decide +kernel) hst (by first | decide | exact Nat.le_of_ble_eq_true rfl) (fun p e s m below meth c ls F hr hnm hW hl => ?_)
  have F : Fx p l s m ([.ref v0, .int v1]).toArray meth c cX6_pass 5 RX6 G := F
  have hnm : meth.name = "pass" := hnm
  have hl : lv_has ls 5 [(0, .ref v0), (1, .int v1)] := hl
  have hx := F.1.1
  have hb := F.1.2.1
  unfold w_X6_pass at h
  refine lv_aload_n hx hb dX6_pass_0 rfl (lv_at hl 0 rfl) ?_
  refine lv_iconst (v := (0 : Int32)) hx hb dX6_pass_1 (by decide) ?_
  refine pf_7_0 F hW (x := (0 : Int32)) h.1 q_118 dX6_pass_2 (fun H locs hW => ?_)
  replace h := h.2
  obtain ⟨u1, eu⟩ : ∃ z, z = setI u 224 v0 (0 : Int32) := ⟨_, rfl⟩
  rw [← eu] at hW
  replace h := h u1 eu
  clear eu
  refine lv_iload_n hx hb dX6_pass_5 rfl (lv_at hl 1 rfl) ?_
  refine lv_iconst (v := (1 : Int32)) hx hb dX6_pass_6 (by decide) ?_
  refine lv_bipush (v := (60 : Int32)) hx hb dX6_pass_7 (by decide) ?_
  refine cI (runS (n := 3) (As := [.int v1, .int (1 : Int32), .int (60 : Int32)]) (rest := []) F hW (c_X6_in F.2.2.2 G v1 (1 : Int32) (60 : Int32) u1 _ h) q_123 q_124 q_5 q_125 (by decide +kernel) ⟨Nat.le_of_ble_eq_true rfl, Nat.le_of_ble_eq_true rfl⟩ dX6_pass_9 rfl hl.1 (Nat.le_of_ble_eq_true rfl) ⟨Nat.zero_le _, Nat.zero_le _⟩) hW (fun r3 u2 h9 H locs hW => ?_)
  replace h := h9
  clear h9
  refine lv_if_ne (tgt := 21) hx hb dX6_pass_12 (by decide) (fun hc4 => ?_) (fun hc4 => ?_)
  · have h := h.2 hc4
    refine lv_aload_n hx hb dX6_pass_21 rfl (lv_at hl 0 rfl) ?_
    refine gf_7_2 F hW h.1 q_368 dX6_pass_22 ?_
    replace h := h.2
    refine lv_iload_n hx hb dX6_pass_25 rfl (lv_at hl 1 rfl) ?_
    refine lv_iadd hx hb dX6_pass_26 ?_
    refine lv_sipush (v := (1000 : Int32)) hx hb dX6_pass_27 (by decide) ?_
    refine lv_icmp_le (tgt := 39) hx hb dX6_pass_30 (by decide) (fun hc5 => ?_) (fun hc5 => ?_)
    · have h := h.1 hc5
      refine lv_iconst (v := (0 : Int32)) hx hb dX6_pass_39 (by decide) ?_
      refine lv_istore_n (lv' := [(2, .int (0 : Int32)), (0, .ref v0), (1, .int v1)]) hx hb dX6_pass_40 rfl hl (by decide) rfl (fun ls hl9 => ?_)
      replace hl := hl9
      clear hl9
      refine lv_iconst (v := (0 : Int32)) hx hb dX6_pass_41 (by decide) ?_
      refine lv_istore_n (lv' := [(3, .int (0 : Int32)), (2, .int (0 : Int32)), (0, .ref v0), (1, .int v1)]) hx hb dX6_pass_42 rfl hl (by decide) rfl (fun ls hl9 => ?_)
      replace hl := hl9
      clear hl9
      obtain ⟨n, h⟩ := h
      exact t_X6_pass_43 v0 v1 F hr K n (0 : Int32) (0 : Int32) u2 _ _ _ h hW (lv_sub hl [2, 3, 1, 0] rfl)
    · have h := h.2 hc5
      refine lv_aload_n hx hb dX6_pass_33 rfl (lv_at hl 0 rfl) ?_
      refine lv_iconst (v := (2 : Int32)) hx hb dX6_pass_34 (by decide) ?_
      obtain ⟨hob, h⟩ := h
      refine cI (runV (n := 1) (As := [.int (2 : Int32)]) (rest := []) F hW (c_X6_fails F.2.2.2 G v0 (2 : Int32) u2 _ h) hob (ci := 7) rfl q_126 q_127 q_128 q_5 q_129 rfl (by decide +kernel) ⟨Nat.le_of_ble_eq_true rfl, Nat.le_of_ble_eq_true rfl⟩ dX6_pass_35 rfl hl.1 (Nat.le_of_ble_eq_true rfl) ⟨Nat.zero_le _, Nat.zero_le _⟩) hW (fun r7 u6 h9 H locs hW => ?_)
      replace h := h9
      clear h9
      exact retI F hr hW h dX6_pass_38
  · have h := h.1 hc4
    refine lv_aload_n hx hb dX6_pass_15 rfl (lv_at hl 0 rfl) ?_
    refine lv_iconst (v := (1 : Int32)) hx hb dX6_pass_16 (by decide) ?_
    obtain ⟨hob, h⟩ := h
    refine cI (runV (n := 1) (As := [.int (1 : Int32)]) (rest := []) F hW (c_X6_fails F.2.2.2 G v0 (1 : Int32) u2 _ h) hob (ci := 7) rfl q_126 q_127 q_128 q_5 q_129 rfl (by decide +kernel) ⟨Nat.le_of_ble_eq_true rfl, Nat.le_of_ble_eq_true rfl⟩ dX6_pass_17 rfl hl.1 (Nat.le_of_ble_eq_true rfl) ⟨Nat.zero_le _, Nat.zero_le _⟩) hW (fun r9 u8 h9 H locs hW => ?_)
    replace h := h9
    clear h9
    exact retI F hr hW h dX6_pass_20
set_option maxHeartbeats 4000000 in
set_option maxRecDepth 100000 in
theorem c_X6_pay {l : Launch} (hst : l.stackTraces = false) (G : Ctx) (v0 : Nat) (v1 : Int32) (v2 : Int32) (u : Mem) (K : Int32 → Mem → Prop) (h : w_X6_pay G v0 v1 v2 u K) : CtI l yX6_pay (.code yX6_pay cX6_pay 3 (some .int)) 2 42 0 0 G [.ref v0, .int v1, .int v2] u K := by
  refine entM (by first | decide | decide +kernel) hst (by first | decide | exact Nat.le_of_ble_eq_true rfl) (fun p e s m below meth c ls F hr hnm hW hl => ?_)
  have F : Fx p l s m ([.ref v0, .int v1, .int v2]).toArray meth c cX6_pay 3 RX6 G := F
  have hnm : meth.name = "pay" := hnm
  have hl : lv_has ls 3 [(0, .ref v0), (1, .int v1), (2, .int v2)] := hl
  have hx := F.1.1
  have hb := F.1.2.1
  unfold w_X6_pay at h
  refine lv_aload_n hx hb dX6_pay_0 rfl (lv_at hl 0 rfl) ?_
  refine lv_iconst (v := (0 : Int32)) hx hb dX6_pay_1 (by decide) ?_
  refine pf_7_0 F hW (x := (0 : Int32)) h.1 q_118 dX6_pay_2 (fun H locs hW => ?_)
  replace h := h.2
  obtain ⟨u1, eu⟩ : ∃ z, z = setI u 224 v0 (0 : Int32) := ⟨_, rfl⟩
  rw [← eu] at hW
  replace h := h u1 eu
  clear eu
  refine lv_iload_n hx hb dX6_pay_5 rfl (lv_at hl 1 rfl) ?_
  refine cI (runS (n := 1) (As := [.int v1]) (rest := []) F hW (c_X6_isStreet F.2.2.2 G v1 u1 _ h) q_120 q_121 q_5 q_122 (by decide +kernel) ⟨Nat.le_of_ble_eq_true rfl, Nat.le_of_ble_eq_true rfl⟩ dX6_pay_6 rfl hl.1 (Nat.le_of_ble_eq_true rfl) ⟨Nat.zero_le _, Nat.zero_le _⟩) hW (fun r3 u2 h9 H locs hW => ?_)
  replace h := h9
  clear h9
  refine lv_if_ne (tgt := 18) hx hb dX6_pay_9 (by decide) (fun hc4 => ?_) (fun hc4 => ?_)
  · have h := h.2 hc4
    refine lv_iload_n hx hb dX6_pay_18 rfl (lv_at hl 2 rfl) ?_
    refine lv_iconst (v := (1 : Int32)) hx hb dX6_pay_19 (by decide) ?_
    refine lv_sipush (v := (10000 : Int32)) hx hb dX6_pay_20 (by decide) ?_
    refine cI (runS (n := 3) (As := [.int v2, .int (1 : Int32), .int (10000 : Int32)]) (rest := []) F hW (c_X6_in F.2.2.2 G v2 (1 : Int32) (10000 : Int32) u2 _ h) q_123 q_124 q_5 q_125 (by decide +kernel) ⟨Nat.le_of_ble_eq_true rfl, Nat.le_of_ble_eq_true rfl⟩ dX6_pay_23 rfl hl.1 (Nat.le_of_ble_eq_true rfl) ⟨Nat.zero_le _, Nat.zero_le _⟩) hW (fun r6 u5 h9 H locs hW => ?_)
    replace h := h9
    clear h9
    refine lv_if_ne (tgt := 35) hx hb dX6_pay_26 (by decide) (fun hc7 => ?_) (fun hc7 => ?_)
    · have h := h.2 hc7
      refine lv_aload_n hx hb dX6_pay_35 rfl (lv_at hl 0 rfl) ?_
      refine gf_7_3 F hW h.1 q_74 dX6_pay_36 ?_
      replace h := h.2
      obtain ⟨r8, er⟩ : ∃ z, z = mR u5 227 v0 := ⟨_, rfl⟩
      rw [← er]
      replace h := h r8 er
      clear er
      refine lv_iload_n hx hb dX6_pay_39 rfl (lv_at hl 1 rfl) ?_
      obtain ⟨a9, ea, h⟩ := h
      subst ea
      refine rIald F hW h.1 h.2.1 dX6_pay_40 ?_
      replace h := h.2.2
      refine lv_iload_n hx hb dX6_pay_41 rfl (lv_at hl 2 rfl) ?_
      refine lv_iadd hx hb dX6_pay_42 ?_
      refine lv_ldc hx hb F.1.2.2.2.1 (F.1.2.2.2.2 _ q_119) dX6_pay_43 ?_
      refine lv_icmp_le (tgt := 54) hx hb dX6_pay_45 (by decide) (fun hc10 => ?_) (fun hc10 => ?_)
      · have h := h.1 hc10
        refine lv_aload_n hx hb dX6_pay_54 rfl (lv_at hl 0 rfl) ?_
        refine gf_7_3 F hW h.1 q_74 dX6_pay_55 ?_
        replace h := h.2
        obtain ⟨r11, er⟩ : ∃ z, z = mR u5 227 v0 := ⟨_, rfl⟩
        rw [← er]
        replace h := h r11 er
        clear er
        refine lv_iload_n hx hb dX6_pay_58 rfl (lv_at hl 1 rfl) ?_
        refine lv_dup2_11 hx hb dX6_pay_59 rfl (va_rf_cat _) ?_
        obtain ⟨a12, ea, h⟩ := h
        subst ea
        refine rIald F hW h.1 h.2.1 dX6_pay_60 ?_
        replace h := h.2.2
        refine lv_iload_n hx hb dX6_pay_61 rfl (lv_at hl 2 rfl) ?_
        refine lv_iadd hx hb dX6_pay_62 ?_
        refine rIast F hW h.1 h.2.1 dX6_pay_63 (fun H locs hW => ?_)
        replace h := h.2.2
        obtain ⟨u13, eu⟩ : ∃ z, z = setA u5 a12 (v1.toNatClampNeg) ((mA u5 a12 v1.toNatClampNeg) + v2) := ⟨_, rfl⟩
        rw [← eu] at hW
        replace h := h u13 eu
        clear eu
        refine lv_aload_n hx hb dX6_pay_64 rfl (lv_at hl 0 rfl) ?_
        refine gf_7_3 F hW h.1 q_74 dX6_pay_65 ?_
        replace h := h.2
        obtain ⟨r14, er⟩ : ∃ z, z = mR u13 227 v0 := ⟨_, rfl⟩
        rw [← er]
        replace h := h r14 er
        clear er
        refine lv_iload_n hx hb dX6_pay_68 rfl (lv_at hl 1 rfl) ?_
        obtain ⟨a15, ea, h⟩ := h
        subst ea
        refine rIald F hW h.1 h.2.1 dX6_pay_69 ?_
        replace h := h.2.2
        exact retI F hr hW h dX6_pay_70
      · have h := h.2 hc10
        refine lv_aload_n hx hb dX6_pay_48 rfl (lv_at hl 0 rfl) ?_
        refine lv_iconst (v := (3 : Int32)) hx hb dX6_pay_49 (by decide) ?_
        obtain ⟨hob, h⟩ := h
        refine cI (runV (n := 1) (As := [.int (3 : Int32)]) (rest := []) F hW (c_X6_fails F.2.2.2 G v0 (3 : Int32) u5 _ h) hob (ci := 7) rfl q_126 q_127 q_128 q_5 q_129 rfl (by decide +kernel) ⟨Nat.le_of_ble_eq_true rfl, Nat.le_of_ble_eq_true rfl⟩ dX6_pay_50 rfl hl.1 (Nat.le_of_ble_eq_true rfl) ⟨Nat.zero_le _, Nat.zero_le _⟩) hW (fun r17 u16 h9 H locs hW => ?_)
        replace h := h9
        clear h9
        exact retI F hr hW h dX6_pay_53
    · have h := h.1 hc7
      refine lv_aload_n hx hb dX6_pay_29 rfl (lv_at hl 0 rfl) ?_
      refine lv_iconst (v := (2 : Int32)) hx hb dX6_pay_30 (by decide) ?_
      obtain ⟨hob, h⟩ := h
      refine cI (runV (n := 1) (As := [.int (2 : Int32)]) (rest := []) F hW (c_X6_fails F.2.2.2 G v0 (2 : Int32) u5 _ h) hob (ci := 7) rfl q_126 q_127 q_128 q_5 q_129 rfl (by decide +kernel) ⟨Nat.le_of_ble_eq_true rfl, Nat.le_of_ble_eq_true rfl⟩ dX6_pay_31 rfl hl.1 (Nat.le_of_ble_eq_true rfl) ⟨Nat.zero_le _, Nat.zero_le _⟩) hW (fun r19 u18 h9 H locs hW => ?_)
      replace h := h9
      clear h9
      exact retI F hr hW h dX6_pay_34
  · have h := h.1 hc4
    refine lv_aload_n hx hb dX6_pay_12 rfl (lv_at hl 0 rfl) ?_
    refine lv_iconst (v := (1 : Int32)) hx hb dX6_pay_13 (by decide) ?_
    obtain ⟨hob, h⟩ := h
    refine cI (runV (n := 1) (As := [.int (1 : Int32)]) (rest := []) F hW (c_X6_fails F.2.2.2 G v0 (1 : Int32) u2 _ h) hob (ci := 7) rfl q_126 q_127 q_128 q_5 q_129 rfl (by decide +kernel) ⟨Nat.le_of_ble_eq_true rfl, Nat.le_of_ble_eq_true rfl⟩ dX6_pay_14 rfl hl.1 (Nat.le_of_ble_eq_true rfl) ⟨Nat.zero_le _, Nat.zero_le _⟩) hW (fun r21 u20 h9 H locs hW => ?_)
    replace h := h9
    clear h9
    exact retI F hr hW h dX6_pay_17
set_option maxHeartbeats 4000000 in
set_option maxRecDepth 100000 in
theorem t_X6_pictures_36 {p : Program} {l : Launch} {e : Env} {s : State} {m : MethodId} {below : List Frame} {meth : Method} {c : Code} {G : Ctx} (v0 : Nat) (F : Fx p l s m ([.ref v0]).toArray meth c cX6_pictures 3 RX6 G) (hr : meth.sig.returnType = (some .int)) (K : Int32 → Mem → Prop) (J9 : Int32 → Int32 → Mem → Prop) (hJ9 : ∀ (v1 : Int32) (v2 : Int32) (u : Mem) (H : Heap) (locs : List Loc) (ls : Array Slot), J9 v1 v2 u → Wd G u s H locs → lv_has ls 3 [(0, .ref v0), (1, .int v1), (2, .int v2)] → W p l e { frames := 0, cells := 0, slots := 0, locals := 0 } s m ([.ref v0]).toArray below meth c H locs 0 0 (MQ below (va_Qi K (fun u' t => Wp G u' t.heap) (Ab G)) ([.ref v0]).toArray s 0 0 (Ab G)) (F0 m 9 ls [])) : ∀ (v2 : Int32) (s0 : Int32) (s1 : Int32) (u : Mem) (H : Heap) (locs : List Loc) (ls : Array Slot), w_X6_pictures_36 G v0 K J9 v2 s0 s1 u → Wd G u s H locs → lv_has ls 3 [(0, .ref v0), (2, .int v2)] → W p l e { frames := 0, cells := 0, slots := 0, locals := 0 } s m ([.ref v0]).toArray below meth c H locs 0 0 (MQ below (va_Qi K (fun u' t => Wp G u' t.heap) (Ab G)) ([.ref v0]).toArray s 0 0 (Ab G)) (F0 m 36 ls [.int s0, .int s1]) := by
  have hx := F.1.1
  have hb := F.1.2.1
  intro v2 s0 s1 u H locs ls h hW hl
  unfold w_X6_pictures_36 at h
  refine lv_iadd hx hb dX6_pictures_36 ?_
  refine lv_istore_n (lv' := [(1, .int (s1 + s0)), (0, .ref v0), (2, .int v2)]) hx hb dX6_pictures_37 rfl hl (by decide) rfl (fun ls hl9 => ?_)
  replace hl := hl9
  clear hl9
  refine lv_iinc (v := (v2 + 1)) (lv' := [(2, .int (v2 + 1)), (1, .int (s1 + s0)), (0, .ref v0)]) hx hb dX6_pictures_38 hl (k := 2) rfl rfl (by decide) rfl (fun ls hl9 => ?_)
  replace hl := hl9
  clear hl9
  refine lv_goto (tgt := 9) hx hb dX6_pictures_41 (by decide) ?_
  exact hJ9 (s1 + s0) (v2 + 1) u _ _ _ h hW (lv_sub hl [2, 1, 0] rfl)
set_option maxHeartbeats 4000000 in
set_option maxRecDepth 100000 in
theorem t_X6_pictures_9 {p : Program} {l : Launch} {e : Env} {s : State} {m : MethodId} {below : List Frame} {meth : Method} {c : Code} {G : Ctx} (v0 : Nat) (F : Fx p l s m ([.ref v0]).toArray meth c cX6_pictures 3 RX6 G) (hr : meth.sig.returnType = (some .int)) (K : Int32 → Mem → Prop) : ∀ (n : Nat), ∀ (v1 : Int32) (v2 : Int32) (u : Mem) (H : Heap) (locs : List Loc) (ls : Array Slot), w_X6_pictures_9 G v0 K n v1 v2 u → Wd G u s H locs → lv_has ls 3 [(0, .ref v0), (1, .int v1), (2, .int v2)] → W p l e { frames := 0, cells := 0, slots := 0, locals := 0 } s m ([.ref v0]).toArray below meth c H locs 0 0 (MQ below (va_Qi K (fun u' t => Wp G u' t.heap) (Ab G)) ([.ref v0]).toArray s 0 0 (Ab G)) (F0 m 9 ls []) := by
  have hx := F.1.1
  have hb := F.1.2.1
  intro n
  induction n with
  | zero =>
    intro v1 v2 u H locs ls h hW hl
    exact h.elim
  | succ n hJ9 =>
    intro v1 v2 u H locs ls h hW hl
    have h : b_X6_pictures_9 G v0 K (w_X6_pictures_9 G v0 K n) v1 v2 u := h
    revert h
    generalize w_X6_pictures_9 G v0 K n = J9 at hJ9 ⊢
    intro h
    unfold b_X6_pictures_9 at h
    refine lv_iload_n hx hb dX6_pictures_9 rfl (lv_at hl 2 rfl) ?_
    refine lv_aload_n hx hb dX6_pictures_10 rfl (lv_at hl 0 rfl) ?_
    refine gf_7_17 F hW h.1 q_387 dX6_pictures_11 ?_
    replace h := h.2
    refine lv_icmp_ge (tgt := 44) hx hb dX6_pictures_14 (by decide) (fun hc10 => ?_) (fun hc10 => ?_)
    · have h := h.1 hc10
      refine lv_iload_n hx hb dX6_pictures_44 rfl (lv_at hl 1 rfl) ?_
      exact retI F hr hW h dX6_pictures_45
    · have h := h.2 hc10
      refine lv_iload_n hx hb dX6_pictures_17 rfl (lv_at hl 1 rfl) ?_
      refine lv_aload_n hx hb dX6_pictures_18 rfl (lv_at hl 0 rfl) ?_
      refine gf_7_1 F hW h.1 q_388 dX6_pictures_19 ?_
      replace h := h.2
      refine lv_aload_n hx hb dX6_pictures_22 rfl (lv_at hl 0 rfl) ?_
      refine gf_7_21 F hW h.1 q_91 dX6_pictures_23 ?_
      replace h := h.2
      obtain ⟨r11, er⟩ : ∃ z, z = mR u 245 v0 := ⟨_, rfl⟩
      rw [← er]
      replace h := h r11 er
      clear er
      refine lv_iload_n hx hb dX6_pictures_26 rfl (lv_at hl 2 rfl) ?_
      obtain ⟨a12, ea, h⟩ := h
      subst ea
      refine rIald F hW h.1 h.2.1 dX6_pictures_27 ?_
      replace h := h.2.2
      refine lv_icmp_ge (tgt := 35) hx hb dX6_pictures_28 (by decide) (fun hc13 => ?_) (fun hc13 => ?_)
      · have h := h.1 hc13
        refine lv_iconst (v := (0 : Int32)) hx hb dX6_pictures_35 (by decide) ?_
        exact t_X6_pictures_36 v0 F hr K J9 hJ9 v2 (0 : Int32) v1 u _ _ _ h hW (lv_sub hl [0, 2] rfl)
      · have h := h.2 hc13
        refine lv_iconst (v := (1 : Int32)) hx hb dX6_pictures_31 (by decide) ?_
        refine lv_goto (tgt := 36) hx hb dX6_pictures_32 (by decide) ?_
        exact t_X6_pictures_36 v0 F hr K J9 hJ9 v2 (1 : Int32) v1 u _ _ _ h hW (lv_sub hl [0, 2] rfl)
set_option maxHeartbeats 4000000 in
set_option maxRecDepth 100000 in
theorem c_X6_pictures {l : Launch} (hst : l.stackTraces = false) (G : Ctx) (v0 : Nat) (u : Mem) (K : Int32 → Mem → Prop) (h : w_X6_pictures G v0 u K) : CtI l yX6_pictures (.code yX6_pictures cX6_pictures 3 (some .int)) 0 0 0 0 G [.ref v0] u K := by
  refine entM (by first | decide | decide +kernel) hst (by first | decide | exact Nat.le_of_ble_eq_true rfl) (fun p e s m below meth c ls F hr hnm hW hl => ?_)
  have F : Fx p l s m ([.ref v0]).toArray meth c cX6_pictures 3 RX6 G := F
  have hnm : meth.name = "pictures" := hnm
  have hl : lv_has ls 3 [(0, .ref v0)] := hl
  have hx := F.1.1
  have hb := F.1.2.1
  unfold w_X6_pictures at h
  refine lv_aload_n hx hb dX6_pictures_0 rfl (lv_at hl 0 rfl) ?_
  refine lv_iconst (v := (0 : Int32)) hx hb dX6_pictures_1 (by decide) ?_
  refine pf_7_0 F hW (x := (0 : Int32)) h.1 q_118 dX6_pictures_2 (fun H locs hW => ?_)
  replace h := h.2
  obtain ⟨u1, eu⟩ : ∃ z, z = setI u 224 v0 (0 : Int32) := ⟨_, rfl⟩
  rw [← eu] at hW
  replace h := h u1 eu
  clear eu
  refine lv_iconst (v := (0 : Int32)) hx hb dX6_pictures_5 (by decide) ?_
  refine lv_istore_n (lv' := [(1, .int (0 : Int32)), (0, .ref v0)]) hx hb dX6_pictures_6 rfl hl (by decide) rfl (fun ls hl9 => ?_)
  replace hl := hl9
  clear hl9
  refine lv_iconst (v := (0 : Int32)) hx hb dX6_pictures_7 (by decide) ?_
  refine lv_istore_n (lv' := [(2, .int (0 : Int32)), (1, .int (0 : Int32)), (0, .ref v0)]) hx hb dX6_pictures_8 rfl hl (by decide) rfl (fun ls hl9 => ?_)
  replace hl := hl9
  clear hl9
  obtain ⟨n, h⟩ := h
  exact t_X6_pictures_9 v0 F hr K n (0 : Int32) (0 : Int32) u1 _ _ _ h hW (lv_sub hl [2, 1, 0] rfl)
set_option maxHeartbeats 4000000 in
set_option maxRecDepth 100000 in
theorem t_X6_place_19 {p : Program} {l : Launch} {e : Env} {s : State} {m : MethodId} {below : List Frame} {meth : Method} {c : Code} {G : Ctx} (v0 : Nat) (v1 : Int32) (v2 : Int32) (F : Fx p l s m ([.ref v0, .int v1, .int v2]).toArray meth c cX6_place 4 RX6 G) (hr : meth.sig.returnType = (some .int)) (K : Int32 → Mem → Prop) : ∀ (u : Mem) (H : Heap) (locs : List Loc) (ls : Array Slot), w_X6_place_19 G v0 v1 v2 K u → Wd G u s H locs → lv_has ls 4 [(0, .ref v0), (1, .int v1), (2, .int v2)] → W p l e { frames := 2, cells := 0, slots := 0, locals := 42 } s m ([.ref v0, .int v1, .int v2]).toArray below meth c H locs 0 0 (MQ below (va_Qi K (fun u' t => Wp G u' t.heap) (Ab G)) ([.ref v0, .int v1, .int v2]).toArray s 0 0 (Ab G)) (F0 m 19 ls []) := by
  have hx := F.1.1
  have hb := F.1.2.1
  intro u H locs ls h hW hl
  unfold w_X6_place_19 at h
  refine lv_aload_n hx hb dX6_place_19 rfl (lv_at hl 0 rfl) ?_
  refine lv_iconst (v := (1 : Int32)) hx hb dX6_place_20 (by decide) ?_
  obtain ⟨hob, h⟩ := h
  refine cI (runV (n := 1) (As := [.int (1 : Int32)]) (rest := []) F hW (c_X6_fails F.2.2.2 G v0 (1 : Int32) u _ h) hob (ci := 7) rfl q_126 q_127 q_128 q_5 q_129 rfl (by decide +kernel) ⟨Nat.le_of_ble_eq_true rfl, Nat.le_of_ble_eq_true rfl⟩ dX6_place_21 rfl hl.1 (Nat.le_of_ble_eq_true rfl) ⟨Nat.zero_le _, Nat.zero_le _⟩) hW (fun r23 u22 h9 H locs hW => ?_)
  replace h := h9
  clear h9
  exact retI F hr hW h dX6_place_24
set_option maxHeartbeats 4000000 in
set_option maxRecDepth 100000 in
theorem c_X6_place {l : Launch} (hst : l.stackTraces = false) (G : Ctx) (v0 : Nat) (v1 : Int32) (v2 : Int32) (u : Mem) (K : Int32 → Mem → Prop) (h : w_X6_place G v0 v1 v2 u K) : CtI l yX6_place (.code yX6_place cX6_place 4 (some .int)) 2 42 0 0 G [.ref v0, .int v1, .int v2] u K := by
  refine entM (by first | decide | decide +kernel) hst (by first | decide | exact Nat.le_of_ble_eq_true rfl) (fun p e s m below meth c ls F hr hnm hW hl => ?_)
  have F : Fx p l s m ([.ref v0, .int v1, .int v2]).toArray meth c cX6_place 4 RX6 G := F
  have hnm : meth.name = "place" := hnm
  have hl : lv_has ls 4 [(0, .ref v0), (1, .int v1), (2, .int v2)] := hl
  have hx := F.1.1
  have hb := F.1.2.1
  unfold w_X6_place at h
  refine lv_aload_n hx hb dX6_place_0 rfl (lv_at hl 0 rfl) ?_
  refine lv_iconst (v := (0 : Int32)) hx hb dX6_place_1 (by decide) ?_
  refine pf_7_0 F hW (x := (0 : Int32)) h.1 q_118 dX6_place_2 (fun H locs hW => ?_)
  replace h := h.2
  obtain ⟨u1, eu⟩ : ∃ z, z = setI u 224 v0 (0 : Int32) := ⟨_, rfl⟩
  rw [← eu] at hW
  replace h := h u1 eu
  clear eu
  refine lv_iload_n hx hb dX6_place_5 rfl (lv_at hl 1 rfl) ?_
  refine cI (runS (n := 1) (As := [.int v1]) (rest := []) F hW (c_X6_isEscort F.2.2.2 G v1 u1 _ h) q_193 q_194 q_5 q_195 (by decide +kernel) ⟨Nat.le_of_ble_eq_true rfl, Nat.le_of_ble_eq_true rfl⟩ dX6_place_6 rfl hl.1 (Nat.le_of_ble_eq_true rfl) ⟨Nat.zero_le _, Nat.zero_le _⟩) hW (fun r3 u2 h9 H locs hW => ?_)
  replace h := h9
  clear h9
  refine lv_if_eq (tgt := 19) hx hb dX6_place_9 (by decide) (fun hc4 => ?_) (fun hc4 => ?_)
  · have h := h.1 hc4
    exact t_X6_place_19 v0 v1 v2 F hr K u2 _ _ _ h hW (lv_sub hl [0, 1, 2] rfl)
  · have h := h.2 hc4
    refine lv_iload_n hx hb dX6_place_12 rfl (lv_at hl 2 rfl) ?_
    refine cI (runS (n := 1) (As := [.int v2]) (rest := []) F hW (c_X6_isStreet F.2.2.2 G v2 u2 _ h) q_120 q_121 q_5 q_122 (by decide +kernel) ⟨Nat.le_of_ble_eq_true rfl, Nat.le_of_ble_eq_true rfl⟩ dX6_place_13 rfl hl.1 (Nat.le_of_ble_eq_true rfl) ⟨Nat.zero_le _, Nat.zero_le _⟩) hW (fun r6 u5 h9 H locs hW => ?_)
    replace h := h9
    clear h9
    refine lv_if_ne (tgt := 25) hx hb dX6_place_16 (by decide) (fun hc7 => ?_) (fun hc7 => ?_)
    · have h := h.2 hc7
      refine lv_aload_n hx hb dX6_place_25 rfl (lv_at hl 0 rfl) ?_
      refine gf_7_9 F hW h.1 q_81 dX6_place_26 ?_
      replace h := h.2
      obtain ⟨r8, er⟩ : ∃ z, z = mR u5 233 v0 := ⟨_, rfl⟩
      rw [← er]
      replace h := h r8 er
      clear er
      refine lv_iload_n hx hb dX6_place_29 rfl (lv_at hl 1 rfl) ?_
      obtain ⟨a9, ea, h⟩ := h
      subst ea
      refine rZald F hW h.1 h.2.1 dX6_place_30 ?_
      replace h := h.2.2
      refine lv_if_eq (tgt := 40) hx hb dX6_place_31 (by decide) (fun hc10 => ?_) (fun hc10 => ?_)
      · have h := h.1 hc10
        refine lv_aload_n hx hb dX6_place_40 rfl (lv_at hl 0 rfl) ?_
        refine gf_7_7 F hW h.1 q_79 dX6_place_41 ?_
        replace h := h.2
        obtain ⟨r11, er⟩ : ∃ z, z = mR u5 231 v0 := ⟨_, rfl⟩
        rw [← er]
        replace h := h r11 er
        clear er
        refine lv_iload_n hx hb dX6_place_44 rfl (lv_at hl 1 rfl) ?_
        obtain ⟨a12, ea, h⟩ := h
        subst ea
        refine rIald F hW h.1 h.2.1 dX6_place_45 ?_
        replace h := h.2.2
        refine lv_istore_n (lv' := [(3, .int (mA u5 a12 v1.toNatClampNeg)), (0, .ref v0), (1, .int v1), (2, .int v2)]) hx hb dX6_place_46 rfl hl (by decide) rfl (fun ls hl9 => ?_)
        replace hl := hl9
        clear hl9
        refine lv_aload_n hx hb dX6_place_47 rfl (lv_at hl 1 rfl) ?_
        refine gf_7_7 F hW h.1 q_79 dX6_place_48 ?_
        replace h := h.2
        obtain ⟨r13, er⟩ : ∃ z, z = mR u5 231 v0 := ⟨_, rfl⟩
        rw [← er]
        replace h := h r13 er
        clear er
        refine lv_iload_n hx hb dX6_place_51 rfl (lv_at hl 2 rfl) ?_
        refine lv_iload_n hx hb dX6_place_52 rfl (lv_at hl 3 rfl) ?_
        obtain ⟨a14, ea, h⟩ := h
        subst ea
        refine rIast F hW h.1 h.2.1 dX6_place_53 (fun H locs hW => ?_)
        replace h := h.2.2
        obtain ⟨u15, eu⟩ : ∃ z, z = setA u5 a14 (v1.toNatClampNeg) v2 := ⟨_, rfl⟩
        rw [← eu] at hW
        replace h := h u15 eu
        clear eu
        refine lv_iload_n hx hb dX6_place_54 rfl (lv_at hl 0 rfl) ?_
        exact retI F hr hW h dX6_place_55
      · have h := h.2 hc10
        refine lv_aload_n hx hb dX6_place_34 rfl (lv_at hl 0 rfl) ?_
        refine lv_iconst (v := (2 : Int32)) hx hb dX6_place_35 (by decide) ?_
        obtain ⟨hob, h⟩ := h
        refine cI (runV (n := 1) (As := [.int (2 : Int32)]) (rest := []) F hW (c_X6_fails F.2.2.2 G v0 (2 : Int32) u5 _ h) hob (ci := 7) rfl q_126 q_127 q_128 q_5 q_129 rfl (by decide +kernel) ⟨Nat.le_of_ble_eq_true rfl, Nat.le_of_ble_eq_true rfl⟩ dX6_place_36 rfl hl.1 (Nat.le_of_ble_eq_true rfl) ⟨Nat.zero_le _, Nat.zero_le _⟩) hW (fun r17 u16 h9 H locs hW => ?_)
        replace h := h9
        clear h9
        exact retI F hr hW h dX6_place_39
    · have h := h.1 hc7
      exact t_X6_place_19 v0 v1 v2 F hr K u5 _ _ _ h hW (lv_sub hl [0, 1, 2] rfl)
set_option maxHeartbeats 4000000 in
set_option maxRecDepth 100000 in
theorem c_X6_purse {l : Launch} (hst : l.stackTraces = false) (G : Ctx) (v0 : Nat) (v1 : Int32) (u : Mem) (K : Int32 → Mem → Prop) (h : w_X6_purse G v0 v1 u K) : CtI l yX6_purse (.code yX6_purse cX6_purse 2 (some .int)) 2 42 0 0 G [.ref v0, .int v1] u K := by
  refine entM (by first | decide | decide +kernel) hst (by first | decide | exact Nat.le_of_ble_eq_true rfl) (fun p e s m below meth c ls F hr hnm hW hl => ?_)
  have F : Fx p l s m ([.ref v0, .int v1]).toArray meth c cX6_purse 2 RX6 G := F
  have hnm : meth.name = "purse" := hnm
  have hl : lv_has ls 2 [(0, .ref v0), (1, .int v1)] := hl
  have hx := F.1.1
  have hb := F.1.2.1
  unfold w_X6_purse at h
  refine lv_aload_n hx hb dX6_purse_0 rfl (lv_at hl 0 rfl) ?_
  refine lv_iconst (v := (0 : Int32)) hx hb dX6_purse_1 (by decide) ?_
  refine pf_7_0 F hW (x := (0 : Int32)) h.1 q_118 dX6_purse_2 (fun H locs hW => ?_)
  replace h := h.2
  obtain ⟨u1, eu⟩ : ∃ z, z = setI u 224 v0 (0 : Int32) := ⟨_, rfl⟩
  rw [← eu] at hW
  replace h := h u1 eu
  clear eu
  refine lv_iload_n hx hb dX6_purse_5 rfl (lv_at hl 1 rfl) ?_
  refine cI (runS (n := 1) (As := [.int v1]) (rest := []) F hW (c_X6_isStreet F.2.2.2 G v1 u1 _ h) q_120 q_121 q_5 q_122 (by decide +kernel) ⟨Nat.le_of_ble_eq_true rfl, Nat.le_of_ble_eq_true rfl⟩ dX6_purse_6 rfl hl.1 (Nat.le_of_ble_eq_true rfl) ⟨Nat.zero_le _, Nat.zero_le _⟩) hW (fun r3 u2 h9 H locs hW => ?_)
  replace h := h9
  clear h9
  refine lv_if_eq (tgt := 21) hx hb dX6_purse_9 (by decide) (fun hc4 => ?_) (fun hc4 => ?_)
  · have h := h.1 hc4
    refine lv_aload_n hx hb dX6_purse_21 rfl (lv_at hl 0 rfl) ?_
    refine lv_iconst (v := (1 : Int32)) hx hb dX6_purse_22 (by decide) ?_
    obtain ⟨hob, h⟩ := h
    refine cI (runV (n := 1) (As := [.int (1 : Int32)]) (rest := []) F hW (c_X6_fails F.2.2.2 G v0 (1 : Int32) u2 _ h) hob (ci := 7) rfl q_126 q_127 q_128 q_5 q_129 rfl (by decide +kernel) ⟨Nat.le_of_ble_eq_true rfl, Nat.le_of_ble_eq_true rfl⟩ dX6_purse_23 rfl hl.1 (Nat.le_of_ble_eq_true rfl) ⟨Nat.zero_le _, Nat.zero_le _⟩) hW (fun r6 u5 h9 H locs hW => ?_)
    replace h := h9
    clear h9
    exact retI F hr hW h dX6_purse_26
  · have h := h.2 hc4
    refine lv_aload_n hx hb dX6_purse_12 rfl (lv_at hl 0 rfl) ?_
    refine gf_7_3 F hW h.1 q_74 dX6_purse_13 ?_
    replace h := h.2
    obtain ⟨r7, er⟩ : ∃ z, z = mR u2 227 v0 := ⟨_, rfl⟩
    rw [← er]
    replace h := h r7 er
    clear er
    refine lv_iload_n hx hb dX6_purse_16 rfl (lv_at hl 1 rfl) ?_
    obtain ⟨a8, ea, h⟩ := h
    subst ea
    refine rIald F hW h.1 h.2.1 dX6_purse_17 ?_
    replace h := h.2.2
    refine lv_goto (tgt := 26) hx hb dX6_purse_18 (by decide) ?_
    exact retI F hr hW h dX6_purse_26
set_option maxHeartbeats 4000000 in
set_option maxRecDepth 100000 in
theorem c_X6_rank {l : Launch} (hst : l.stackTraces = false) (G : Ctx) (v0 : Nat) (v1 : Int32) (u : Mem) (K : Int32 → Mem → Prop) (h : w_X6_rank G v0 v1 u K) : CtI l yX6_rank (.code yX6_rank cX6_rank 2 (some .int)) 2 42 0 0 G [.ref v0, .int v1] u K := by
  refine entM (by first | decide | decide +kernel) hst (by first | decide | exact Nat.le_of_ble_eq_true rfl) (fun p e s m below meth c ls F hr hnm hW hl => ?_)
  have F : Fx p l s m ([.ref v0, .int v1]).toArray meth c cX6_rank 2 RX6 G := F
  have hnm : meth.name = "rank" := hnm
  have hl : lv_has ls 2 [(0, .ref v0), (1, .int v1)] := hl
  have hx := F.1.1
  have hb := F.1.2.1
  unfold w_X6_rank at h
  refine lv_aload_n hx hb dX6_rank_0 rfl (lv_at hl 0 rfl) ?_
  refine lv_iconst (v := (0 : Int32)) hx hb dX6_rank_1 (by decide) ?_
  refine pf_7_0 F hW (x := (0 : Int32)) h.1 q_118 dX6_rank_2 (fun H locs hW => ?_)
  replace h := h.2
  obtain ⟨u1, eu⟩ : ∃ z, z = setI u 224 v0 (0 : Int32) := ⟨_, rfl⟩
  rw [← eu] at hW
  replace h := h u1 eu
  clear eu
  refine lv_iload_n hx hb dX6_rank_5 rfl (lv_at hl 1 rfl) ?_
  refine cI (runS (n := 1) (As := [.int v1]) (rest := []) F hW (c_X6_isEscort F.2.2.2 G v1 u1 _ h) q_193 q_194 q_5 q_195 (by decide +kernel) ⟨Nat.le_of_ble_eq_true rfl, Nat.le_of_ble_eq_true rfl⟩ dX6_rank_6 rfl hl.1 (Nat.le_of_ble_eq_true rfl) ⟨Nat.zero_le _, Nat.zero_le _⟩) hW (fun r3 u2 h9 H locs hW => ?_)
  replace h := h9
  clear h9
  refine lv_if_eq (tgt := 21) hx hb dX6_rank_9 (by decide) (fun hc4 => ?_) (fun hc4 => ?_)
  · have h := h.1 hc4
    refine lv_aload_n hx hb dX6_rank_21 rfl (lv_at hl 0 rfl) ?_
    refine lv_iconst (v := (1 : Int32)) hx hb dX6_rank_22 (by decide) ?_
    obtain ⟨hob, h⟩ := h
    refine cI (runV (n := 1) (As := [.int (1 : Int32)]) (rest := []) F hW (c_X6_fails F.2.2.2 G v0 (1 : Int32) u2 _ h) hob (ci := 7) rfl q_126 q_127 q_128 q_5 q_129 rfl (by decide +kernel) ⟨Nat.le_of_ble_eq_true rfl, Nat.le_of_ble_eq_true rfl⟩ dX6_rank_23 rfl hl.1 (Nat.le_of_ble_eq_true rfl) ⟨Nat.zero_le _, Nat.zero_le _⟩) hW (fun r6 u5 h9 H locs hW => ?_)
    replace h := h9
    clear h9
    exact retI F hr hW h dX6_rank_26
  · have h := h.2 hc4
    refine lv_aload_n hx hb dX6_rank_12 rfl (lv_at hl 0 rfl) ?_
    refine gf_7_8 F hW h.1 q_80 dX6_rank_13 ?_
    replace h := h.2
    obtain ⟨r7, er⟩ : ∃ z, z = mR u2 232 v0 := ⟨_, rfl⟩
    rw [← er]
    replace h := h r7 er
    clear er
    refine lv_iload_n hx hb dX6_rank_16 rfl (lv_at hl 1 rfl) ?_
    obtain ⟨a8, ea, h⟩ := h
    subst ea
    refine rIald F hW h.1 h.2.1 dX6_rank_17 ?_
    replace h := h.2.2
    refine lv_goto (tgt := 26) hx hb dX6_rank_18 (by decide) ?_
    exact retI F hr hW h dX6_rank_26
set_option maxHeartbeats 4000000 in
set_option maxRecDepth 100000 in
theorem c_X6_setStreet {l : Launch} (hst : l.stackTraces = false) (G : Ctx) (v0 : Nat) (v1 : Int32) (v2 : Int32) (v3 : Int32) (u : Mem) (K : Int32 → Mem → Prop) (h : w_X6_setStreet G v0 v1 v2 v3 u K) : CtI l yX6_setStreet (.code yX6_setStreet cX6_setStreet 5 (some .int)) 2 42 0 0 G [.ref v0, .int v1, .int v2, .int v3] u K := by
  refine entM (by first | decide | decide +kernel) hst (by first | decide | exact Nat.le_of_ble_eq_true rfl) (fun p e s m below meth c ls F hr hnm hW hl => ?_)
  have F : Fx p l s m ([.ref v0, .int v1, .int v2, .int v3]).toArray meth c cX6_setStreet 5 RX6 G := F
  have hnm : meth.name = "setStreet" := hnm
  have hl : lv_has ls 5 [(0, .ref v0), (1, .int v1), (2, .int v2), (3, .int v3)] := hl
  have hx := F.1.1
  have hb := F.1.2.1
  unfold w_X6_setStreet at h
  refine lv_aload_n hx hb dX6_setStreet_0 rfl (lv_at hl 0 rfl) ?_
  refine lv_iconst (v := (0 : Int32)) hx hb dX6_setStreet_1 (by decide) ?_
  refine pf_7_0 F hW (x := (0 : Int32)) h.1 q_118 dX6_setStreet_2 (fun H locs hW => ?_)
  replace h := h.2
  obtain ⟨u1, eu⟩ : ∃ z, z = setI u 224 v0 (0 : Int32) := ⟨_, rfl⟩
  rw [← eu] at hW
  replace h := h u1 eu
  clear eu
  refine lv_iload_n hx hb dX6_setStreet_5 rfl (lv_at hl 1 rfl) ?_
  refine cI (runS (n := 1) (As := [.int v1]) (rest := []) F hW (c_X6_isStreet F.2.2.2 G v1 u1 _ h) q_120 q_121 q_5 q_122 (by decide +kernel) ⟨Nat.le_of_ble_eq_true rfl, Nat.le_of_ble_eq_true rfl⟩ dX6_setStreet_6 rfl hl.1 (Nat.le_of_ble_eq_true rfl) ⟨Nat.zero_le _, Nat.zero_le _⟩) hW (fun r3 u2 h9 H locs hW => ?_)
  replace h := h9
  clear h9
  refine lv_if_ne (tgt := 18) hx hb dX6_setStreet_9 (by decide) (fun hc4 => ?_) (fun hc4 => ?_)
  · have h := h.2 hc4
    refine lv_iload_n hx hb dX6_setStreet_18 rfl (lv_at hl 2 rfl) ?_
    refine lv_iconst (v := (0 : Int32)) hx hb dX6_setStreet_19 (by decide) ?_
    refine lv_bipush (v := (50 : Int32)) hx hb dX6_setStreet_20 (by decide) ?_
    refine cI (runS (n := 3) (As := [.int v2, .int (0 : Int32), .int (50 : Int32)]) (rest := []) F hW (c_X6_in F.2.2.2 G v2 (0 : Int32) (50 : Int32) u2 _ h) q_123 q_124 q_5 q_125 (by decide +kernel) ⟨Nat.le_of_ble_eq_true rfl, Nat.le_of_ble_eq_true rfl⟩ dX6_setStreet_22 rfl hl.1 (Nat.le_of_ble_eq_true rfl) ⟨Nat.zero_le _, Nat.zero_le _⟩) hW (fun r6 u5 h9 H locs hW => ?_)
    replace h := h9
    clear h9
    refine lv_if_ne (tgt := 34) hx hb dX6_setStreet_25 (by decide) (fun hc7 => ?_) (fun hc7 => ?_)
    · have h := h.2 hc7
      refine lv_aload_n hx hb dX6_setStreet_34 rfl (lv_at hl 0 rfl) ?_
      refine gf_7_4 F hW h.1 q_75 dX6_setStreet_35 ?_
      replace h := h.2
      obtain ⟨r8, er⟩ : ∃ z, z = mR u5 228 v0 := ⟨_, rfl⟩
      rw [← er]
      replace h := h r8 er
      clear er
      refine lv_iload_n hx hb dX6_setStreet_38 rfl (lv_at hl 1 rfl) ?_
      obtain ⟨a9, ea, h⟩ := h
      subst ea
      refine rIald F hW h.1 h.2.1 dX6_setStreet_39 ?_
      replace h := h.2.2
      refine lv_istore (lv' := [(4, .int (mA u5 a9 v1.toNatClampNeg)), (0, .ref v0), (1, .int v1), (2, .int v2), (3, .int v3)]) hx hb dX6_setStreet_40 hl (by decide) rfl (fun ls hl9 => ?_)
      replace hl := hl9
      clear hl9
      refine lv_aload_n hx hb dX6_setStreet_42 rfl (lv_at hl 1 rfl) ?_
      refine gf_7_4 F hW h.1 q_75 dX6_setStreet_43 ?_
      replace h := h.2
      obtain ⟨r10, er⟩ : ∃ z, z = mR u5 228 v0 := ⟨_, rfl⟩
      rw [← er]
      replace h := h r10 er
      clear er
      refine lv_iload_n hx hb dX6_setStreet_46 rfl (lv_at hl 2 rfl) ?_
      refine lv_iload_n hx hb dX6_setStreet_47 rfl (lv_at hl 3 rfl) ?_
      obtain ⟨a11, ea, h⟩ := h
      subst ea
      refine rIast F hW h.1 h.2.1 dX6_setStreet_48 (fun H locs hW => ?_)
      replace h := h.2.2
      obtain ⟨u12, eu⟩ : ∃ z, z = setA u5 a11 (v1.toNatClampNeg) v2 := ⟨_, rfl⟩
      rw [← eu] at hW
      replace h := h u12 eu
      clear eu
      refine lv_aload_n hx hb dX6_setStreet_49 rfl (lv_at hl 1 rfl) ?_
      refine gf_7_5 F hW h.1 q_77 dX6_setStreet_50 ?_
      replace h := h.2
      obtain ⟨r13, er⟩ : ∃ z, z = mR u12 229 v0 := ⟨_, rfl⟩
      rw [← er]
      replace h := h r13 er
      clear er
      refine lv_iload_n hx hb dX6_setStreet_53 rfl (lv_at hl 2 rfl) ?_
      refine lv_iload_n hx hb dX6_setStreet_54 rfl (lv_at hl 4 rfl) ?_
      obtain ⟨a14, ea, h⟩ := h
      subst ea
      refine rZast F hW h.1 h.2.1 h.2.2.1 dX6_setStreet_55 (fun H locs hW => ?_)
      replace h := h.2.2.2
      obtain ⟨u15, eu⟩ : ∃ z, z = setA u12 a14 (v1.toNatClampNeg) v3 := ⟨_, rfl⟩
      rw [← eu] at hW
      replace h := h u15 eu
      clear eu
      refine lv_iload hx hb dX6_setStreet_56 (lv_at hl 0 rfl) ?_
      exact retI F hr hW h dX6_setStreet_58
    · have h := h.1 hc7
      refine lv_aload_n hx hb dX6_setStreet_28 rfl (lv_at hl 0 rfl) ?_
      refine lv_iconst (v := (2 : Int32)) hx hb dX6_setStreet_29 (by decide) ?_
      obtain ⟨hob, h⟩ := h
      refine cI (runV (n := 1) (As := [.int (2 : Int32)]) (rest := []) F hW (c_X6_fails F.2.2.2 G v0 (2 : Int32) u5 _ h) hob (ci := 7) rfl q_126 q_127 q_128 q_5 q_129 rfl (by decide +kernel) ⟨Nat.le_of_ble_eq_true rfl, Nat.le_of_ble_eq_true rfl⟩ dX6_setStreet_30 rfl hl.1 (Nat.le_of_ble_eq_true rfl) ⟨Nat.zero_le _, Nat.zero_le _⟩) hW (fun r17 u16 h9 H locs hW => ?_)
      replace h := h9
      clear h9
      exact retI F hr hW h dX6_setStreet_33
  · have h := h.1 hc4
    refine lv_aload_n hx hb dX6_setStreet_12 rfl (lv_at hl 0 rfl) ?_
    refine lv_iconst (v := (1 : Int32)) hx hb dX6_setStreet_13 (by decide) ?_
    obtain ⟨hob, h⟩ := h
    refine cI (runV (n := 1) (As := [.int (1 : Int32)]) (rest := []) F hW (c_X6_fails F.2.2.2 G v0 (1 : Int32) u2 _ h) hob (ci := 7) rfl q_126 q_127 q_128 q_5 q_129 rfl (by decide +kernel) ⟨Nat.le_of_ble_eq_true rfl, Nat.le_of_ble_eq_true rfl⟩ dX6_setStreet_14 rfl hl.1 (Nat.le_of_ble_eq_true rfl) ⟨Nat.zero_le _, Nat.zero_le _⟩) hW (fun r19 u18 h9 H locs hW => ?_)
    replace h := h9
    clear h9
    exact retI F hr hW h dX6_setStreet_17
set_option maxHeartbeats 4000000 in
set_option maxRecDepth 100000 in
theorem t_X6_shows_21 {p : Program} {l : Launch} {e : Env} {s : State} {m : MethodId} {below : List Frame} {meth : Method} {c : Code} {G : Ctx} (v0 : Nat) (v1 : Int32) (v2 : Int32) (v3 : Int32) (F : Fx p l s m ([.ref v0, .int v1, .int v2, .int v3]).toArray meth c cX6_shows 4 RX6 G) (hr : meth.sig.returnType = (some .boolean)) (K : Int32 → Mem → Prop) : ∀ (s0 : Int32) (s1 : Nat) (u : Mem) (H : Heap) (locs : List Loc) (ls : Array Slot), w_X6_shows_21 G v0 v1 v2 v3 K s0 s1 u → Wd G u s H locs → lv_has ls 4 [(0, .ref v0), (1, .int v1), (2, .int v2), (3, .int v3)] → W p l e { frames := 2, cells := 0, slots := 0, locals := 43 } s m ([.ref v0, .int v1, .int v2, .int v3]).toArray below meth c H locs 0 0 (MQ below (va_Qi K (fun u' t => Wp G u' t.heap) (Ab G)) ([.ref v0, .int v1, .int v2, .int v3]).toArray s 0 0 (Ab G)) (F0 m 21 ls [.int s0, .ref s1]) := by
  have hx := F.1.1
  have hb := F.1.2.1
  intro s0 s1 u H locs ls h hW hl
  unfold w_X6_shows_21 at h
  refine pf_7_0 F hW (x := s0) h.1 q_118 dX6_shows_21 (fun H locs hW => ?_)
  replace h := h.2
  obtain ⟨u17, eu⟩ : ∃ z, z = setI u 224 s1 s0 := ⟨_, rfl⟩
  rw [← eu] at hW
  replace h := h u17 eu
  clear eu
  refine lv_aload_n hx hb dX6_shows_24 rfl (lv_at hl 0 rfl) ?_
  refine gf_7_0 F hW h.1 q_118 dX6_shows_25 ?_
  replace h := h.2
  refine lv_if_ne (tgt := 45) hx hb dX6_shows_28 (by decide) (fun hc18 => ?_) (fun hc18 => ?_)
  · have h := h.2 hc18
    refine lv_iconst (v := (0 : Int32)) hx hb dX6_shows_45 (by decide) ?_
    exact retZ F hr hW h.1 h.2 dX6_shows_46
  · have h := h.1 hc18
    refine lv_aload_n hx hb dX6_shows_31 rfl (lv_at hl 0 rfl) ?_
    refine lv_iload_n hx hb dX6_shows_32 rfl (lv_at hl 1 rfl) ?_
    refine lv_iload_n hx hb dX6_shows_33 rfl (lv_at hl 2 rfl) ?_
    refine lv_iload_n hx hb dX6_shows_34 rfl (lv_at hl 3 rfl) ?_
    obtain ⟨hob, h⟩ := h
    refine cI (runV (n := 3) (As := [.int v1, .int v2, .int v3]) (rest := []) F hW (c_X6_isTaken F.2.2.2 G v0 v1 v2 v3 u17 _ h) hob (ci := 7) rfl q_389 q_390 q_391 q_5 q_392 rfl (by decide +kernel) ⟨Nat.le_of_ble_eq_true rfl, Nat.le_of_ble_eq_true rfl⟩ dX6_shows_35 rfl hl.1 (Nat.le_of_ble_eq_true rfl) ⟨Nat.zero_le _, Nat.zero_le _⟩) hW (fun r20 u19 h9 H locs hW => ?_)
    replace h := h9
    clear h9
    refine lv_if_eq (tgt := 45) hx hb dX6_shows_38 (by decide) (fun hc21 => ?_) (fun hc21 => ?_)
    · have h := h.1 hc21
      refine lv_iconst (v := (0 : Int32)) hx hb dX6_shows_45 (by decide) ?_
      exact retZ F hr hW h.1 h.2 dX6_shows_46
    · have h := h.2 hc21
      refine lv_iconst (v := (1 : Int32)) hx hb dX6_shows_41 (by decide) ?_
      refine lv_goto (tgt := 46) hx hb dX6_shows_42 (by decide) ?_
      exact retZ F hr hW h.1 h.2 dX6_shows_46
set_option maxHeartbeats 4000000 in
set_option maxRecDepth 100000 in
theorem t_X6_shows_20 {p : Program} {l : Launch} {e : Env} {s : State} {m : MethodId} {below : List Frame} {meth : Method} {c : Code} {G : Ctx} (v0 : Nat) (v1 : Int32) (v2 : Int32) (v3 : Int32) (F : Fx p l s m ([.ref v0, .int v1, .int v2, .int v3]).toArray meth c cX6_shows 4 RX6 G) (hr : meth.sig.returnType = (some .boolean)) (K : Int32 → Mem → Prop) : ∀ (s0 : Nat) (u : Mem) (H : Heap) (locs : List Loc) (ls : Array Slot), w_X6_shows_20 G v0 v1 v2 v3 K s0 u → Wd G u s H locs → lv_has ls 4 [(0, .ref v0), (1, .int v1), (2, .int v2), (3, .int v3)] → W p l e { frames := 2, cells := 0, slots := 0, locals := 43 } s m ([.ref v0, .int v1, .int v2, .int v3]).toArray below meth c H locs 0 0 (MQ below (va_Qi K (fun u' t => Wp G u' t.heap) (Ab G)) ([.ref v0, .int v1, .int v2, .int v3]).toArray s 0 0 (Ab G)) (F0 m 20 ls [.ref s0]) := by
  have hx := F.1.1
  have hb := F.1.2.1
  intro s0 u H locs ls h hW hl
  unfold w_X6_shows_20 at h
  refine lv_iconst (v := (1 : Int32)) hx hb dX6_shows_20 (by decide) ?_
  exact t_X6_shows_21 v0 v1 v2 v3 F hr K (1 : Int32) s0 u _ _ _ h hW (lv_sub hl [0, 1, 2, 3] rfl)
set_option maxHeartbeats 4000000 in
set_option maxRecDepth 100000 in
theorem c_X6_shows {l : Launch} (hst : l.stackTraces = false) (G : Ctx) (v0 : Nat) (v1 : Int32) (v2 : Int32) (v3 : Int32) (u : Mem) (K : Int32 → Mem → Prop) (h : w_X6_shows G v0 v1 v2 v3 u K) : CtI l yX6_shows (.code yX6_shows cX6_shows 4 (some .boolean)) 2 43 0 0 G [.ref v0, .int v1, .int v2, .int v3] u K := by
  refine entM (by first | decide | decide +kernel) hst (by first | decide | exact Nat.le_of_ble_eq_true rfl) (fun p e s m below meth c ls F hr hnm hW hl => ?_)
  have F : Fx p l s m ([.ref v0, .int v1, .int v2, .int v3]).toArray meth c cX6_shows 4 RX6 G := F
  have hnm : meth.name = "shows" := hnm
  have hl : lv_has ls 4 [(0, .ref v0), (1, .int v1), (2, .int v2), (3, .int v3)] := hl
  have hx := F.1.1
  have hb := F.1.2.1
  unfold w_X6_shows at h
  refine lv_aload_n hx hb dX6_shows_0 rfl (lv_at hl 0 rfl) ?_
  refine lv_iload_n hx hb dX6_shows_1 rfl (lv_at hl 1 rfl) ?_
  refine cI (runS (n := 1) (As := [.int v1]) (rest := [.ref v0]) F hW (c_X6_isStreet F.2.2.2 G v1 u _ h) q_120 q_121 q_5 q_122 (by decide +kernel) ⟨Nat.le_of_ble_eq_true rfl, Nat.le_of_ble_eq_true rfl⟩ dX6_shows_2 rfl hl.1 (Nat.le_of_ble_eq_true rfl) ⟨Nat.zero_le _, Nat.zero_le _⟩) hW (fun r2 u1 h9 H locs hW => ?_)
  replace h := h9
  clear h9
  refine lv_if_eq (tgt := 20) hx hb dX6_shows_5 (by decide) (fun hc3 => ?_) (fun hc3 => ?_)
  · have h := h.1 hc3
    exact t_X6_shows_20 v0 v1 v2 v3 F hr K v0 u1 _ _ _ h hW (lv_sub hl [0, 1, 2, 3] rfl)
  · have h := h.2 hc3
    refine lv_aload_n hx hb dX6_shows_8 rfl (lv_at hl 0 rfl) ?_
    refine lv_iload_n hx hb dX6_shows_9 rfl (lv_at hl 2 rfl) ?_
    obtain ⟨hob, h⟩ := h
    refine cI (runV (n := 1) (As := [.int v2]) (rest := [.ref v0]) F hW (c_X6_isWalk F.2.2.2 G v0 v2 u1 _ h) hob (ci := 7) rfl q_437 q_438 q_439 q_5 q_440 rfl (by decide +kernel) ⟨Nat.le_of_ble_eq_true rfl, Nat.le_of_ble_eq_true rfl⟩ dX6_shows_10 rfl hl.1 (Nat.le_of_ble_eq_true rfl) ⟨Nat.zero_le _, Nat.zero_le _⟩) hW (fun r5 u4 h9 H locs hW => ?_)
    replace h := h9
    clear h9
    refine lv_if_eq (tgt := 20) hx hb dX6_shows_13 (by decide) (fun hc6 => ?_) (fun hc6 => ?_)
    · have h := h.1 hc6
      exact t_X6_shows_20 v0 v1 v2 v3 F hr K v0 u4 _ _ _ h hW (lv_sub hl [0, 1, 2, 3] rfl)
    · have h := h.2 hc6
      refine lv_iconst (v := (0 : Int32)) hx hb dX6_shows_16 (by decide) ?_
      refine lv_goto (tgt := 21) hx hb dX6_shows_17 (by decide) ?_
      exact t_X6_shows_21 v0 v1 v2 v3 F hr K (0 : Int32) v0 u4 _ _ _ h hW (lv_sub hl [0, 1, 2, 3] rfl)
set_option maxHeartbeats 4000000 in
set_option maxRecDepth 100000 in
theorem t_X6_showsByPapers_21 {p : Program} {l : Launch} {e : Env} {s : State} {m : MethodId} {below : List Frame} {meth : Method} {c : Code} {G : Ctx} (v0 : Nat) (v1 : Int32) (v2 : Int32) (v3 : Int32) (F : Fx p l s m ([.ref v0, .int v1, .int v2, .int v3]).toArray meth c cX6_showsByPapers 4 RX6 G) (hr : meth.sig.returnType = (some .boolean)) (K : Int32 → Mem → Prop) : ∀ (s0 : Int32) (s1 : Nat) (u : Mem) (H : Heap) (locs : List Loc) (ls : Array Slot), w_X6_showsByPapers_21 G v0 v1 v2 v3 K s0 s1 u → Wd G u s H locs → lv_has ls 4 [(0, .ref v0), (1, .int v1), (2, .int v2), (3, .int v3)] → W p l e { frames := 2, cells := 0, slots := 0, locals := 43 } s m ([.ref v0, .int v1, .int v2, .int v3]).toArray below meth c H locs 0 0 (MQ below (va_Qi K (fun u' t => Wp G u' t.heap) (Ab G)) ([.ref v0, .int v1, .int v2, .int v3]).toArray s 0 0 (Ab G)) (F0 m 21 ls [.int s0, .ref s1]) := by
  have hx := F.1.1
  have hb := F.1.2.1
  intro s0 s1 u H locs ls h hW hl
  unfold w_X6_showsByPapers_21 at h
  refine pf_7_0 F hW (x := s0) h.1 q_118 dX6_showsByPapers_21 (fun H locs hW => ?_)
  replace h := h.2
  obtain ⟨u17, eu⟩ : ∃ z, z = setI u 224 s1 s0 := ⟨_, rfl⟩
  rw [← eu] at hW
  replace h := h u17 eu
  clear eu
  refine lv_aload_n hx hb dX6_showsByPapers_24 rfl (lv_at hl 0 rfl) ?_
  refine gf_7_0 F hW h.1 q_118 dX6_showsByPapers_25 ?_
  replace h := h.2
  refine lv_if_ne (tgt := 45) hx hb dX6_showsByPapers_28 (by decide) (fun hc18 => ?_) (fun hc18 => ?_)
  · have h := h.2 hc18
    refine lv_iconst (v := (0 : Int32)) hx hb dX6_showsByPapers_45 (by decide) ?_
    exact retZ F hr hW h.1 h.2 dX6_showsByPapers_46
  · have h := h.1 hc18
    refine lv_aload_n hx hb dX6_showsByPapers_31 rfl (lv_at hl 0 rfl) ?_
    refine lv_iload_n hx hb dX6_showsByPapers_32 rfl (lv_at hl 1 rfl) ?_
    refine lv_iload_n hx hb dX6_showsByPapers_33 rfl (lv_at hl 2 rfl) ?_
    refine lv_iload_n hx hb dX6_showsByPapers_34 rfl (lv_at hl 3 rfl) ?_
    obtain ⟨hob, h⟩ := h
    refine cI (runV (n := 3) (As := [.int v1, .int v2, .int v3]) (rest := []) F hW (c_X6_isTaken F.2.2.2 G v0 v1 v2 v3 u17 _ h) hob (ci := 7) rfl q_389 q_390 q_391 q_5 q_392 rfl (by decide +kernel) ⟨Nat.le_of_ble_eq_true rfl, Nat.le_of_ble_eq_true rfl⟩ dX6_showsByPapers_35 rfl hl.1 (Nat.le_of_ble_eq_true rfl) ⟨Nat.zero_le _, Nat.zero_le _⟩) hW (fun r20 u19 h9 H locs hW => ?_)
    replace h := h9
    clear h9
    refine lv_if_eq (tgt := 45) hx hb dX6_showsByPapers_38 (by decide) (fun hc21 => ?_) (fun hc21 => ?_)
    · have h := h.1 hc21
      refine lv_iconst (v := (0 : Int32)) hx hb dX6_showsByPapers_45 (by decide) ?_
      exact retZ F hr hW h.1 h.2 dX6_showsByPapers_46
    · have h := h.2 hc21
      refine lv_iconst (v := (1 : Int32)) hx hb dX6_showsByPapers_41 (by decide) ?_
      refine lv_goto (tgt := 46) hx hb dX6_showsByPapers_42 (by decide) ?_
      exact retZ F hr hW h.1 h.2 dX6_showsByPapers_46
set_option maxHeartbeats 4000000 in
set_option maxRecDepth 100000 in
theorem t_X6_showsByPapers_20 {p : Program} {l : Launch} {e : Env} {s : State} {m : MethodId} {below : List Frame} {meth : Method} {c : Code} {G : Ctx} (v0 : Nat) (v1 : Int32) (v2 : Int32) (v3 : Int32) (F : Fx p l s m ([.ref v0, .int v1, .int v2, .int v3]).toArray meth c cX6_showsByPapers 4 RX6 G) (hr : meth.sig.returnType = (some .boolean)) (K : Int32 → Mem → Prop) : ∀ (s0 : Nat) (u : Mem) (H : Heap) (locs : List Loc) (ls : Array Slot), w_X6_showsByPapers_20 G v0 v1 v2 v3 K s0 u → Wd G u s H locs → lv_has ls 4 [(0, .ref v0), (1, .int v1), (2, .int v2), (3, .int v3)] → W p l e { frames := 2, cells := 0, slots := 0, locals := 43 } s m ([.ref v0, .int v1, .int v2, .int v3]).toArray below meth c H locs 0 0 (MQ below (va_Qi K (fun u' t => Wp G u' t.heap) (Ab G)) ([.ref v0, .int v1, .int v2, .int v3]).toArray s 0 0 (Ab G)) (F0 m 20 ls [.ref s0]) := by
  have hx := F.1.1
  have hb := F.1.2.1
  intro s0 u H locs ls h hW hl
  unfold w_X6_showsByPapers_20 at h
  refine lv_iconst (v := (1 : Int32)) hx hb dX6_showsByPapers_20 (by decide) ?_
  exact t_X6_showsByPapers_21 v0 v1 v2 v3 F hr K (1 : Int32) s0 u _ _ _ h hW (lv_sub hl [0, 1, 2, 3] rfl)
set_option maxHeartbeats 4000000 in
set_option maxRecDepth 100000 in
theorem c_X6_showsByPapers {l : Launch} (hst : l.stackTraces = false) (G : Ctx) (v0 : Nat) (v1 : Int32) (v2 : Int32) (v3 : Int32) (u : Mem) (K : Int32 → Mem → Prop) (h : w_X6_showsByPapers G v0 v1 v2 v3 u K) : CtI l yX6_showsByPapers (.code yX6_showsByPapers cX6_showsByPapers 4 (some .boolean)) 2 43 0 0 G [.ref v0, .int v1, .int v2, .int v3] u K := by
  refine entM (by first | decide | decide +kernel) hst (by first | decide | exact Nat.le_of_ble_eq_true rfl) (fun p e s m below meth c ls F hr hnm hW hl => ?_)
  have F : Fx p l s m ([.ref v0, .int v1, .int v2, .int v3]).toArray meth c cX6_showsByPapers 4 RX6 G := F
  have hnm : meth.name = "showsByPapers" := hnm
  have hl : lv_has ls 4 [(0, .ref v0), (1, .int v1), (2, .int v2), (3, .int v3)] := hl
  have hx := F.1.1
  have hb := F.1.2.1
  unfold w_X6_showsByPapers at h
  refine lv_aload_n hx hb dX6_showsByPapers_0 rfl (lv_at hl 0 rfl) ?_
  refine lv_iload_n hx hb dX6_showsByPapers_1 rfl (lv_at hl 1 rfl) ?_
  refine cI (runS (n := 1) (As := [.int v1]) (rest := [.ref v0]) F hW (c_X6_isStreet F.2.2.2 G v1 u _ h) q_120 q_121 q_5 q_122 (by decide +kernel) ⟨Nat.le_of_ble_eq_true rfl, Nat.le_of_ble_eq_true rfl⟩ dX6_showsByPapers_2 rfl hl.1 (Nat.le_of_ble_eq_true rfl) ⟨Nat.zero_le _, Nat.zero_le _⟩) hW (fun r2 u1 h9 H locs hW => ?_)
  replace h := h9
  clear h9
  refine lv_if_eq (tgt := 20) hx hb dX6_showsByPapers_5 (by decide) (fun hc3 => ?_) (fun hc3 => ?_)
  · have h := h.1 hc3
    exact t_X6_showsByPapers_20 v0 v1 v2 v3 F hr K v0 u1 _ _ _ h hW (lv_sub hl [0, 1, 2, 3] rfl)
  · have h := h.2 hc3
    refine lv_aload_n hx hb dX6_showsByPapers_8 rfl (lv_at hl 0 rfl) ?_
    refine lv_iload_n hx hb dX6_showsByPapers_9 rfl (lv_at hl 2 rfl) ?_
    obtain ⟨hob, h⟩ := h
    refine cI (runV (n := 1) (As := [.int v2]) (rest := [.ref v0]) F hW (c_X6_isWalk F.2.2.2 G v0 v2 u1 _ h) hob (ci := 7) rfl q_437 q_438 q_439 q_5 q_440 rfl (by decide +kernel) ⟨Nat.le_of_ble_eq_true rfl, Nat.le_of_ble_eq_true rfl⟩ dX6_showsByPapers_10 rfl hl.1 (Nat.le_of_ble_eq_true rfl) ⟨Nat.zero_le _, Nat.zero_le _⟩) hW (fun r5 u4 h9 H locs hW => ?_)
    replace h := h9
    clear h9
    refine lv_if_eq (tgt := 20) hx hb dX6_showsByPapers_13 (by decide) (fun hc6 => ?_) (fun hc6 => ?_)
    · have h := h.1 hc6
      exact t_X6_showsByPapers_20 v0 v1 v2 v3 F hr K v0 u4 _ _ _ h hW (lv_sub hl [0, 1, 2, 3] rfl)
    · have h := h.2 hc6
      refine lv_iconst (v := (0 : Int32)) hx hb dX6_showsByPapers_16 (by decide) ?_
      refine lv_goto (tgt := 21) hx hb dX6_showsByPapers_17 (by decide) ?_
      exact t_X6_showsByPapers_21 v0 v1 v2 v3 F hr K (0 : Int32) v0 u4 _ _ _ h hW (lv_sub hl [0, 1, 2, 3] rfl)
set_option maxHeartbeats 4000000 in
set_option maxRecDepth 100000 in
theorem c_X6_state {l : Launch} (hst : l.stackTraces = false) (G : Ctx) (v0 : Nat) (v1 : Int32) (u : Mem) (K : Int32 → Mem → Prop) (h : w_X6_state G v0 v1 u K) : CtI l yX6_state (.code yX6_state cX6_state 2 (some .int)) 2 43 0 0 G [.ref v0, .int v1] u K := by
  refine entM (by first | decide | decide +kernel) hst (by first | decide | exact Nat.le_of_ble_eq_true rfl) (fun p e s m below meth c ls F hr hnm hW hl => ?_)
  have F : Fx p l s m ([.ref v0, .int v1]).toArray meth c cX6_state 2 RX6 G := F
  have hnm : meth.name = "state" := hnm
  have hl : lv_has ls 2 [(0, .ref v0), (1, .int v1)] := hl
  have hx := F.1.1
  have hb := F.1.2.1
  unfold w_X6_state at h
  refine lv_aload_n hx hb dX6_state_0 rfl (lv_at hl 0 rfl) ?_
  refine lv_iconst (v := (0 : Int32)) hx hb dX6_state_1 (by decide) ?_
  refine pf_7_0 F hW (x := (0 : Int32)) h.1 q_118 dX6_state_2 (fun H locs hW => ?_)
  replace h := h.2
  obtain ⟨u1, eu⟩ : ∃ z, z = setI u 224 v0 (0 : Int32) := ⟨_, rfl⟩
  rw [← eu] at hW
  replace h := h u1 eu
  clear eu
  refine lv_aload_n hx hb dX6_state_5 rfl (lv_at hl 0 rfl) ?_
  refine lv_iload_n hx hb dX6_state_6 rfl (lv_at hl 1 rfl) ?_
  obtain ⟨hob, h⟩ := h
  refine cI (runV (n := 1) (As := [.int v1]) (rest := []) F hW (c_X6_isWalk F.2.2.2 G v0 v1 u1 _ h) hob (ci := 7) rfl q_437 q_438 q_439 q_5 q_440 rfl (by decide +kernel) ⟨Nat.le_of_ble_eq_true rfl, Nat.le_of_ble_eq_true rfl⟩ dX6_state_7 rfl hl.1 (Nat.le_of_ble_eq_true rfl) ⟨Nat.zero_le _, Nat.zero_le _⟩) hW (fun r3 u2 h9 H locs hW => ?_)
  replace h := h9
  clear h9
  refine lv_if_eq (tgt := 22) hx hb dX6_state_10 (by decide) (fun hc4 => ?_) (fun hc4 => ?_)
  · have h := h.1 hc4
    refine lv_aload_n hx hb dX6_state_22 rfl (lv_at hl 0 rfl) ?_
    refine lv_iconst (v := (1 : Int32)) hx hb dX6_state_23 (by decide) ?_
    obtain ⟨hob, h⟩ := h
    refine cI (runV (n := 1) (As := [.int (1 : Int32)]) (rest := []) F hW (c_X6_fails F.2.2.2 G v0 (1 : Int32) u2 _ h) hob (ci := 7) rfl q_126 q_127 q_128 q_5 q_129 rfl (by decide +kernel) ⟨Nat.le_of_ble_eq_true rfl, Nat.le_of_ble_eq_true rfl⟩ dX6_state_24 rfl hl.1 (Nat.le_of_ble_eq_true rfl) ⟨Nat.zero_le _, Nat.zero_le _⟩) hW (fun r6 u5 h9 H locs hW => ?_)
    replace h := h9
    clear h9
    exact retI F hr hW h dX6_state_27
  · have h := h.2 hc4
    refine lv_aload_n hx hb dX6_state_13 rfl (lv_at hl 0 rfl) ?_
    refine gf_7_13 F hW h.1 q_84 dX6_state_14 ?_
    replace h := h.2
    obtain ⟨r7, er⟩ : ∃ z, z = mR u2 237 v0 := ⟨_, rfl⟩
    rw [← er]
    replace h := h r7 er
    clear er
    refine lv_iload_n hx hb dX6_state_17 rfl (lv_at hl 1 rfl) ?_
    obtain ⟨a8, ea, h⟩ := h
    subst ea
    refine rIald F hW h.1 h.2.1 dX6_state_18 ?_
    replace h := h.2.2
    refine lv_goto (tgt := 27) hx hb dX6_state_19 (by decide) ?_
    exact retI F hr hW h dX6_state_27
set_option maxHeartbeats 4000000 in
set_option maxRecDepth 100000 in
theorem c_X6_streetOf {l : Launch} (hst : l.stackTraces = false) (G : Ctx) (v0 : Nat) (v1 : Int32) (u : Mem) (K : Int32 → Mem → Prop) (h : w_X6_streetOf G v0 v1 u K) : CtI l yX6_streetOf (.code yX6_streetOf cX6_streetOf 2 (some .int)) 2 42 0 0 G [.ref v0, .int v1] u K := by
  refine entM (by first | decide | decide +kernel) hst (by first | decide | exact Nat.le_of_ble_eq_true rfl) (fun p e s m below meth c ls F hr hnm hW hl => ?_)
  have F : Fx p l s m ([.ref v0, .int v1]).toArray meth c cX6_streetOf 2 RX6 G := F
  have hnm : meth.name = "streetOf" := hnm
  have hl : lv_has ls 2 [(0, .ref v0), (1, .int v1)] := hl
  have hx := F.1.1
  have hb := F.1.2.1
  unfold w_X6_streetOf at h
  refine lv_aload_n hx hb dX6_streetOf_0 rfl (lv_at hl 0 rfl) ?_
  refine lv_iconst (v := (0 : Int32)) hx hb dX6_streetOf_1 (by decide) ?_
  refine pf_7_0 F hW (x := (0 : Int32)) h.1 q_118 dX6_streetOf_2 (fun H locs hW => ?_)
  replace h := h.2
  obtain ⟨u1, eu⟩ : ∃ z, z = setI u 224 v0 (0 : Int32) := ⟨_, rfl⟩
  rw [← eu] at hW
  replace h := h u1 eu
  clear eu
  refine lv_iload_n hx hb dX6_streetOf_5 rfl (lv_at hl 1 rfl) ?_
  refine cI (runS (n := 1) (As := [.int v1]) (rest := []) F hW (c_X6_isEscort F.2.2.2 G v1 u1 _ h) q_193 q_194 q_5 q_195 (by decide +kernel) ⟨Nat.le_of_ble_eq_true rfl, Nat.le_of_ble_eq_true rfl⟩ dX6_streetOf_6 rfl hl.1 (Nat.le_of_ble_eq_true rfl) ⟨Nat.zero_le _, Nat.zero_le _⟩) hW (fun r3 u2 h9 H locs hW => ?_)
  replace h := h9
  clear h9
  refine lv_if_eq (tgt := 21) hx hb dX6_streetOf_9 (by decide) (fun hc4 => ?_) (fun hc4 => ?_)
  · have h := h.1 hc4
    refine lv_aload_n hx hb dX6_streetOf_21 rfl (lv_at hl 0 rfl) ?_
    refine lv_iconst (v := (1 : Int32)) hx hb dX6_streetOf_22 (by decide) ?_
    obtain ⟨hob, h⟩ := h
    refine cI (runV (n := 1) (As := [.int (1 : Int32)]) (rest := []) F hW (c_X6_fails F.2.2.2 G v0 (1 : Int32) u2 _ h) hob (ci := 7) rfl q_126 q_127 q_128 q_5 q_129 rfl (by decide +kernel) ⟨Nat.le_of_ble_eq_true rfl, Nat.le_of_ble_eq_true rfl⟩ dX6_streetOf_23 rfl hl.1 (Nat.le_of_ble_eq_true rfl) ⟨Nat.zero_le _, Nat.zero_le _⟩) hW (fun r6 u5 h9 H locs hW => ?_)
    replace h := h9
    clear h9
    exact retI F hr hW h dX6_streetOf_26
  · have h := h.2 hc4
    refine lv_aload_n hx hb dX6_streetOf_12 rfl (lv_at hl 0 rfl) ?_
    refine gf_7_7 F hW h.1 q_79 dX6_streetOf_13 ?_
    replace h := h.2
    obtain ⟨r7, er⟩ : ∃ z, z = mR u2 231 v0 := ⟨_, rfl⟩
    rw [← er]
    replace h := h r7 er
    clear er
    refine lv_iload_n hx hb dX6_streetOf_16 rfl (lv_at hl 1 rfl) ?_
    obtain ⟨a8, ea, h⟩ := h
    subst ea
    refine rIald F hW h.1 h.2.1 dX6_streetOf_17 ?_
    replace h := h.2.2
    refine lv_goto (tgt := 26) hx hb dX6_streetOf_18 (by decide) ?_
    exact retI F hr hW h dX6_streetOf_26
set_option maxHeartbeats 4000000 in
set_option maxRecDepth 100000 in
theorem c_X6_taken {l : Launch} (hst : l.stackTraces = false) (G : Ctx) (v0 : Nat) (u : Mem) (K : Int32 → Mem → Prop) (h : w_X6_taken G v0 u K) : CtI l yX6_taken (.code yX6_taken cX6_taken 1 (some .int)) 0 0 0 0 G [.ref v0] u K := by
  refine entM (by first | decide | decide +kernel) hst (by first | decide | exact Nat.le_of_ble_eq_true rfl) (fun p e s m below meth c ls F hr hnm hW hl => ?_)
  have F : Fx p l s m ([.ref v0]).toArray meth c cX6_taken 1 RX6 G := F
  have hnm : meth.name = "taken" := hnm
  have hl : lv_has ls 1 [(0, .ref v0)] := hl
  have hx := F.1.1
  have hb := F.1.2.1
  unfold w_X6_taken at h
  refine lv_aload_n hx hb dX6_taken_0 rfl (lv_at hl 0 rfl) ?_
  refine lv_iconst (v := (0 : Int32)) hx hb dX6_taken_1 (by decide) ?_
  refine pf_7_0 F hW (x := (0 : Int32)) h.1 q_118 dX6_taken_2 (fun H locs hW => ?_)
  replace h := h.2
  obtain ⟨u1, eu⟩ : ∃ z, z = setI u 224 v0 (0 : Int32) := ⟨_, rfl⟩
  rw [← eu] at hW
  replace h := h u1 eu
  clear eu
  refine lv_aload_n hx hb dX6_taken_5 rfl (lv_at hl 0 rfl) ?_
  refine gf_7_17 F hW h.1 q_387 dX6_taken_6 ?_
  replace h := h.2
  exact retI F hr hW h dX6_taken_9
set_option maxHeartbeats 4000000 in
set_option maxRecDepth 100000 in
theorem c_X6_thrown {l : Launch} (hst : l.stackTraces = false) (G : Ctx) (v0 : Nat) (u : Mem) (K : Int32 → Mem → Prop) (h : w_X6_thrown G v0 u K) : CtI l yX6_thrown (.code yX6_thrown cX6_thrown 1 (some .int)) 0 0 0 0 G [.ref v0] u K := by
  refine entM (by first | decide | decide +kernel) hst (by first | decide | exact Nat.le_of_ble_eq_true rfl) (fun p e s m below meth c ls F hr hnm hW hl => ?_)
  have F : Fx p l s m ([.ref v0]).toArray meth c cX6_thrown 1 RX6 G := F
  have hnm : meth.name = "thrown" := hnm
  have hl : lv_has ls 1 [(0, .ref v0)] := hl
  have hx := F.1.1
  have hb := F.1.2.1
  unfold w_X6_thrown at h
  refine lv_aload_n hx hb dX6_thrown_0 rfl (lv_at hl 0 rfl) ?_
  refine gf_7_0 F hW h.1 q_118 dX6_thrown_1 ?_
  replace h := h.2
  exact retI F hr hW h dX6_thrown_4
set_option maxHeartbeats 4000000 in
set_option maxRecDepth 100000 in
theorem t_X6_vote_21 {p : Program} {l : Launch} {e : Env} {s : State} {m : MethodId} {below : List Frame} {meth : Method} {c : Code} {G : Ctx} (v0 : Nat) (v1 : Int32) (v2 : Int32) (v3 : Int32) (F : Fx p l s m ([.ref v0, .int v1, .int v2, .int v3]).toArray meth c cX6_vote 4 RX6 G) (hr : meth.sig.returnType = (some .int)) (K : Int32 → Mem → Prop) : ∀ (u : Mem) (H : Heap) (locs : List Loc) (ls : Array Slot), w_X6_vote_21 G v0 v1 v2 v3 K u → Wd G u s H locs → lv_has ls 4 [(0, .ref v0), (1, .int v1), (2, .int v2), (3, .int v3)] → W p l e { frames := 2, cells := 0, slots := 0, locals := 42 } s m ([.ref v0, .int v1, .int v2, .int v3]).toArray below meth c H locs 0 0 (MQ below (va_Qi K (fun u' t => Wp G u' t.heap) (Ab G)) ([.ref v0, .int v1, .int v2, .int v3]).toArray s 0 0 (Ab G)) (F0 m 21 ls []) := by
  have hx := F.1.1
  have hb := F.1.2.1
  intro u H locs ls h hW hl
  unfold w_X6_vote_21 at h
  refine lv_aload_n hx hb dX6_vote_21 rfl (lv_at hl 0 rfl) ?_
  refine lv_iconst (v := (1 : Int32)) hx hb dX6_vote_22 (by decide) ?_
  obtain ⟨hob, h⟩ := h
  refine cI (runV (n := 1) (As := [.int (1 : Int32)]) (rest := []) F hW (c_X6_fails F.2.2.2 G v0 (1 : Int32) u _ h) hob (ci := 7) rfl q_126 q_127 q_128 q_5 q_129 rfl (by decide +kernel) ⟨Nat.le_of_ble_eq_true rfl, Nat.le_of_ble_eq_true rfl⟩ dX6_vote_23 rfl hl.1 (Nat.le_of_ble_eq_true rfl) ⟨Nat.zero_le _, Nat.zero_le _⟩) hW (fun r23 u22 h9 H locs hW => ?_)
  replace h := h9
  clear h9
  exact retI F hr hW h dX6_vote_26
set_option maxHeartbeats 4000000 in
set_option maxRecDepth 100000 in
theorem c_X6_vote {l : Launch} (hst : l.stackTraces = false) (G : Ctx) (v0 : Nat) (v1 : Int32) (v2 : Int32) (v3 : Int32) (u : Mem) (K : Int32 → Mem → Prop) (h : w_X6_vote G v0 v1 v2 v3 u K) : CtI l yX6_vote (.code yX6_vote cX6_vote 4 (some .int)) 2 42 0 0 G [.ref v0, .int v1, .int v2, .int v3] u K := by
  refine entM (by first | decide | decide +kernel) hst (by first | decide | exact Nat.le_of_ble_eq_true rfl) (fun p e s m below meth c ls F hr hnm hW hl => ?_)
  have F : Fx p l s m ([.ref v0, .int v1, .int v2, .int v3]).toArray meth c cX6_vote 4 RX6 G := F
  have hnm : meth.name = "vote" := hnm
  have hl : lv_has ls 4 [(0, .ref v0), (1, .int v1), (2, .int v2), (3, .int v3)] := hl
  have hx := F.1.1
  have hb := F.1.2.1
  unfold w_X6_vote at h
  refine lv_aload_n hx hb dX6_vote_0 rfl (lv_at hl 0 rfl) ?_
  refine lv_iconst (v := (0 : Int32)) hx hb dX6_vote_1 (by decide) ?_
  refine pf_7_0 F hW (x := (0 : Int32)) h.1 q_118 dX6_vote_2 (fun H locs hW => ?_)
  replace h := h.2
  obtain ⟨u1, eu⟩ : ∃ z, z = setI u 224 v0 (0 : Int32) := ⟨_, rfl⟩
  rw [← eu] at hW
  replace h := h u1 eu
  clear eu
  refine lv_iload_n hx hb dX6_vote_5 rfl (lv_at hl 1 rfl) ?_
  refine cI (runS (n := 1) (As := [.int v1]) (rest := []) F hW (c_X6_isStreet F.2.2.2 G v1 u1 _ h) q_120 q_121 q_5 q_122 (by decide +kernel) ⟨Nat.le_of_ble_eq_true rfl, Nat.le_of_ble_eq_true rfl⟩ dX6_vote_6 rfl hl.1 (Nat.le_of_ble_eq_true rfl) ⟨Nat.zero_le _, Nat.zero_le _⟩) hW (fun r3 u2 h9 H locs hW => ?_)
  replace h := h9
  clear h9
  refine lv_if_eq (tgt := 21) hx hb dX6_vote_9 (by decide) (fun hc4 => ?_) (fun hc4 => ?_)
  · have h := h.1 hc4
    exact t_X6_vote_21 v0 v1 v2 v3 F hr K u2 _ _ _ h hW (lv_sub hl [0, 1, 2, 3] rfl)
  · have h := h.2 hc4
    refine lv_iload_n hx hb dX6_vote_12 rfl (lv_at hl 2 rfl) ?_
    refine lv_iconst (v := (0 : Int32)) hx hb dX6_vote_13 (by decide) ?_
    refine lv_iconst (v := (2 : Int32)) hx hb dX6_vote_14 (by decide) ?_
    refine cI (runS (n := 3) (As := [.int v2, .int (0 : Int32), .int (2 : Int32)]) (rest := []) F hW (c_X6_in F.2.2.2 G v2 (0 : Int32) (2 : Int32) u2 _ h) q_123 q_124 q_5 q_125 (by decide +kernel) ⟨Nat.le_of_ble_eq_true rfl, Nat.le_of_ble_eq_true rfl⟩ dX6_vote_15 rfl hl.1 (Nat.le_of_ble_eq_true rfl) ⟨Nat.zero_le _, Nat.zero_le _⟩) hW (fun r6 u5 h9 H locs hW => ?_)
    replace h := h9
    clear h9
    refine lv_if_ne (tgt := 27) hx hb dX6_vote_18 (by decide) (fun hc7 => ?_) (fun hc7 => ?_)
    · have h := h.2 hc7
      refine lv_iload_n hx hb dX6_vote_27 rfl (lv_at hl 3 rfl) ?_
      refine lv_iconst (v := (1 : Int32)) hx hb dX6_vote_28 (by decide) ?_
      refine lv_bipush (v := (30 : Int32)) hx hb dX6_vote_29 (by decide) ?_
      refine cI (runS (n := 3) (As := [.int v3, .int (1 : Int32), .int (30 : Int32)]) (rest := []) F hW (c_X6_in F.2.2.2 G v3 (1 : Int32) (30 : Int32) u5 _ h) q_123 q_124 q_5 q_125 (by decide +kernel) ⟨Nat.le_of_ble_eq_true rfl, Nat.le_of_ble_eq_true rfl⟩ dX6_vote_31 rfl hl.1 (Nat.le_of_ble_eq_true rfl) ⟨Nat.zero_le _, Nat.zero_le _⟩) hW (fun r9 u8 h9 H locs hW => ?_)
      replace h := h9
      clear h9
      refine lv_if_ne (tgt := 43) hx hb dX6_vote_34 (by decide) (fun hc10 => ?_) (fun hc10 => ?_)
      · have h := h.2 hc10
        refine lv_aload_n hx hb dX6_vote_43 rfl (lv_at hl 0 rfl) ?_
        refine gf_7_6 F hW h.1 q_78 dX6_vote_44 ?_
        replace h := h.2
        obtain ⟨r11, er⟩ : ∃ z, z = mR u8 230 v0 := ⟨_, rfl⟩
        rw [← er]
        replace h := h r11 er
        clear er
        refine lv_iconst (v := (3 : Int32)) hx hb dX6_vote_47 (by decide) ?_
        refine lv_iload_n hx hb dX6_vote_48 rfl (lv_at hl 1 rfl) ?_
        refine lv_imul hx hb dX6_vote_49 ?_
        refine lv_iload_n hx hb dX6_vote_50 rfl (lv_at hl 2 rfl) ?_
        refine lv_iadd hx hb dX6_vote_51 ?_
        refine lv_iload_n hx hb dX6_vote_52 rfl (lv_at hl 3 rfl) ?_
        obtain ⟨a12, ea, h⟩ := h
        subst ea
        refine rIast F hW h.1 h.2.1 dX6_vote_53 (fun H locs hW => ?_)
        replace h := h.2.2
        obtain ⟨u13, eu⟩ : ∃ z, z = setA u8 a12 ((((3 : Int32) * v1) + v2).toNatClampNeg) v3 := ⟨_, rfl⟩
        rw [← eu] at hW
        replace h := h u13 eu
        clear eu
        refine lv_aload_n hx hb dX6_vote_54 rfl (lv_at hl 0 rfl) ?_
        refine lv_iload_n hx hb dX6_vote_55 rfl (lv_at hl 1 rfl) ?_
        obtain ⟨hob, h⟩ := h
        refine cI (runV (n := 1) (As := [.int v1]) (rest := []) F hW (c_X6_middle F.2.2.2 G v0 v1 u13 _ h) hob (ci := 7) rfl q_171 q_172 q_173 q_5 q_174 rfl (by decide +kernel) ⟨Nat.le_of_ble_eq_true rfl, Nat.le_of_ble_eq_true rfl⟩ dX6_vote_56 rfl hl.1 (Nat.le_of_ble_eq_true rfl) ⟨Nat.zero_le _, Nat.zero_le _⟩) hW (fun r15 u14 h9 H locs hW => ?_)
        replace h := h9
        clear h9
        exact retI F hr hW h dX6_vote_59
      · have h := h.1 hc10
        refine lv_aload_n hx hb dX6_vote_37 rfl (lv_at hl 0 rfl) ?_
        refine lv_iconst (v := (2 : Int32)) hx hb dX6_vote_38 (by decide) ?_
        obtain ⟨hob, h⟩ := h
        refine cI (runV (n := 1) (As := [.int (2 : Int32)]) (rest := []) F hW (c_X6_fails F.2.2.2 G v0 (2 : Int32) u8 _ h) hob (ci := 7) rfl q_126 q_127 q_128 q_5 q_129 rfl (by decide +kernel) ⟨Nat.le_of_ble_eq_true rfl, Nat.le_of_ble_eq_true rfl⟩ dX6_vote_39 rfl hl.1 (Nat.le_of_ble_eq_true rfl) ⟨Nat.zero_le _, Nat.zero_le _⟩) hW (fun r17 u16 h9 H locs hW => ?_)
        replace h := h9
        clear h9
        exact retI F hr hW h dX6_vote_42
    · have h := h.1 hc7
      exact t_X6_vote_21 v0 v1 v2 v3 F hr K u5 _ _ _ h hW (lv_sub hl [0, 1, 2, 3] rfl)
set_option maxHeartbeats 4000000 in
set_option maxRecDepth 100000 in
theorem c_X6_walks {l : Launch} (hst : l.stackTraces = false) (G : Ctx) (v0 : Nat) (u : Mem) (K : Int32 → Mem → Prop) (h : w_X6_walks G v0 u K) : CtI l yX6_walks (.code yX6_walks cX6_walks 1 (some .int)) 0 0 0 0 G [.ref v0] u K := by
  refine entM (by first | decide | decide +kernel) hst (by first | decide | exact Nat.le_of_ble_eq_true rfl) (fun p e s m below meth c ls F hr hnm hW hl => ?_)
  have F : Fx p l s m ([.ref v0]).toArray meth c cX6_walks 1 RX6 G := F
  have hnm : meth.name = "walks" := hnm
  have hl : lv_has ls 1 [(0, .ref v0)] := hl
  have hx := F.1.1
  have hb := F.1.2.1
  unfold w_X6_walks at h
  refine lv_aload_n hx hb dX6_walks_0 rfl (lv_at hl 0 rfl) ?_
  refine lv_iconst (v := (0 : Int32)) hx hb dX6_walks_1 (by decide) ?_
  refine pf_7_0 F hW (x := (0 : Int32)) h.1 q_118 dX6_walks_2 (fun H locs hW => ?_)
  replace h := h.2
  obtain ⟨u1, eu⟩ : ∃ z, z = setI u 224 v0 (0 : Int32) := ⟨_, rfl⟩
  rw [← eu] at hW
  replace h := h u1 eu
  clear eu
  refine lv_aload_n hx hb dX6_walks_5 rfl (lv_at hl 0 rfl) ?_
  refine gf_7_10 F hW h.1 q_273 dX6_walks_6 ?_
  replace h := h.2
  exact retI F hr hW h dX6_walks_9
set_option maxHeartbeats 4000000 in
set_option maxRecDepth 100000 in
theorem t_X6_way_27 {p : Program} {l : Launch} {e : Env} {s : State} {m : MethodId} {below : List Frame} {meth : Method} {c : Code} {G : Ctx} (v0 : Nat) (v1 : Int32) (v2 : Int32) (F : Fx p l s m ([.ref v0, .int v1, .int v2]).toArray meth c cX6_way 3 RX6 G) (hr : meth.sig.returnType = (some .int)) (K : Int32 → Mem → Prop) : ∀ (u : Mem) (H : Heap) (locs : List Loc) (ls : Array Slot), w_X6_way_27 G v0 v1 v2 K u → Wd G u s H locs → lv_has ls 3 [(0, .ref v0), (1, .int v1), (2, .int v2)] → W p l e { frames := 2, cells := 0, slots := 0, locals := 42 } s m ([.ref v0, .int v1, .int v2]).toArray below meth c H locs 0 0 (MQ below (va_Qi K (fun u' t => Wp G u' t.heap) (Ab G)) ([.ref v0, .int v1, .int v2]).toArray s 0 0 (Ab G)) (F0 m 27 ls []) := by
  have hx := F.1.1
  have hb := F.1.2.1
  intro u H locs ls h hW hl
  unfold w_X6_way_27 at h
  refine lv_aload_n hx hb dX6_way_27 rfl (lv_at hl 0 rfl) ?_
  refine lv_iconst (v := (1 : Int32)) hx hb dX6_way_28 (by decide) ?_
  obtain ⟨hob, h⟩ := h
  refine cI (runV (n := 1) (As := [.int (1 : Int32)]) (rest := []) F hW (c_X6_fails F.2.2.2 G v0 (1 : Int32) u _ h) hob (ci := 7) rfl q_126 q_127 q_128 q_5 q_129 rfl (by decide +kernel) ⟨Nat.le_of_ble_eq_true rfl, Nat.le_of_ble_eq_true rfl⟩ dX6_way_29 rfl hl.1 (Nat.le_of_ble_eq_true rfl) ⟨Nat.zero_le _, Nat.zero_le _⟩) hW (fun r15 u14 h9 H locs hW => ?_)
  replace h := h9
  clear h9
  exact retI F hr hW h dX6_way_32
set_option maxHeartbeats 4000000 in
set_option maxRecDepth 100000 in
theorem c_X6_way {l : Launch} (hst : l.stackTraces = false) (G : Ctx) (v0 : Nat) (v1 : Int32) (v2 : Int32) (u : Mem) (K : Int32 → Mem → Prop) (h : w_X6_way G v0 v1 v2 u K) : CtI l yX6_way (.code yX6_way cX6_way 3 (some .int)) 2 42 0 0 G [.ref v0, .int v1, .int v2] u K := by
  refine entM (by first | decide | decide +kernel) hst (by first | decide | exact Nat.le_of_ble_eq_true rfl) (fun p e s m below meth c ls F hr hnm hW hl => ?_)
  have F : Fx p l s m ([.ref v0, .int v1, .int v2]).toArray meth c cX6_way 3 RX6 G := F
  have hnm : meth.name = "way" := hnm
  have hl : lv_has ls 3 [(0, .ref v0), (1, .int v1), (2, .int v2)] := hl
  have hx := F.1.1
  have hb := F.1.2.1
  unfold w_X6_way at h
  refine lv_aload_n hx hb dX6_way_0 rfl (lv_at hl 0 rfl) ?_
  refine lv_iconst (v := (0 : Int32)) hx hb dX6_way_1 (by decide) ?_
  refine pf_7_0 F hW (x := (0 : Int32)) h.1 q_118 dX6_way_2 (fun H locs hW => ?_)
  replace h := h.2
  obtain ⟨u1, eu⟩ : ∃ z, z = setI u 224 v0 (0 : Int32) := ⟨_, rfl⟩
  rw [← eu] at hW
  replace h := h u1 eu
  clear eu
  refine lv_iload_n hx hb dX6_way_5 rfl (lv_at hl 1 rfl) ?_
  refine cI (runS (n := 1) (As := [.int v1]) (rest := []) F hW (c_X6_isStreet F.2.2.2 G v1 u1 _ h) q_120 q_121 q_5 q_122 (by decide +kernel) ⟨Nat.le_of_ble_eq_true rfl, Nat.le_of_ble_eq_true rfl⟩ dX6_way_6 rfl hl.1 (Nat.le_of_ble_eq_true rfl) ⟨Nat.zero_le _, Nat.zero_le _⟩) hW (fun r3 u2 h9 H locs hW => ?_)
  replace h := h9
  clear h9
  refine lv_if_eq (tgt := 27) hx hb dX6_way_9 (by decide) (fun hc4 => ?_) (fun hc4 => ?_)
  · have h := h.1 hc4
    exact t_X6_way_27 v0 v1 v2 F hr K u2 _ _ _ h hW (lv_sub hl [0, 1, 2] rfl)
  · have h := h.2 hc4
    refine lv_iload_n hx hb dX6_way_12 rfl (lv_at hl 2 rfl) ?_
    refine cI (runS (n := 1) (As := [.int v2]) (rest := []) F hW (c_X6_isStreet F.2.2.2 G v2 u2 _ h) q_120 q_121 q_5 q_122 (by decide +kernel) ⟨Nat.le_of_ble_eq_true rfl, Nat.le_of_ble_eq_true rfl⟩ dX6_way_13 rfl hl.1 (Nat.le_of_ble_eq_true rfl) ⟨Nat.zero_le _, Nat.zero_le _⟩) hW (fun r6 u5 h9 H locs hW => ?_)
    replace h := h9
    clear h9
    refine lv_if_eq (tgt := 27) hx hb dX6_way_16 (by decide) (fun hc7 => ?_) (fun hc7 => ?_)
    · have h := h.1 hc7
      exact t_X6_way_27 v0 v1 v2 F hr K u5 _ _ _ h hW (lv_sub hl [0, 1, 2] rfl)
    · have h := h.2 hc7
      refine lv_iload_n hx hb dX6_way_19 rfl (lv_at hl 1 rfl) ?_
      refine lv_iload_n hx hb dX6_way_20 rfl (lv_at hl 2 rfl) ?_
      refine cI (runS (n := 2) (As := [.int v1, .int v2]) (rest := []) F hW (c_X6_length F.2.2.2 G v1 v2 u5 _ h) q_373 q_374 q_5 q_375 (by decide +kernel) ⟨Nat.le_of_ble_eq_true rfl, Nat.le_of_ble_eq_true rfl⟩ dX6_way_21 rfl hl.1 (Nat.le_of_ble_eq_true rfl) ⟨Nat.zero_le _, Nat.zero_le _⟩) hW (fun r9 u8 h9 H locs hW => ?_)
      replace h := h9
      clear h9
      refine lv_goto (tgt := 32) hx hb dX6_way_24 (by decide) ?_
      exact retI F hr hW h dX6_way_32
end WK3
