section WK2
set_option maxHeartbeats 4000000 in
set_option maxRecDepth 100000 in
theorem t_X5_findEscort_13 {p : Program} {l : Launch} {e : Env} {s : State} {m : MethodId} {below : List Frame} {meth : Method} {c : Code} {G : Ctx} (v0 : Nat) (v1 : Int32) (F : Fx p l s m ([.ref v0, .int v1]).toArray meth c cX5_findEscort 2 RX5 G) (hr : meth.sig.returnType = (some (.object "LanternDesk$Escort"))) (K : Option Nat → Mem → Prop) : ∀ (u : Mem) (H : Heap) (locs : List Loc) (ls : Array Slot), w_X5_findEscort_13 G v0 v1 K u → Wd G u s H locs → lv_has ls 2 [(0, .ref v0), (1, .int v1)] → W p l e { frames := 0, cells := 0, slots := 0, locals := 0 } s m ([.ref v0, .int v1]).toArray below meth c H locs 0 0 (MQ below (va_Qq K (fun u' t => Wp G u' t.heap) (Ab G)) ([.ref v0, .int v1]).toArray s 0 0 (Ab G)) (F0 m 13 ls []) := by
  have hx := F.1.1
  have hb := F.1.2.1
  intro u H locs ls h hW hl
  unfold w_X5_findEscort_13 at h
  refine lv_null hx hb dX5_findEscort_13 ?_
  refine lv_goto (tgt := 23) hx hb dX5_findEscort_14 (by decide) ?_
  exact retQ (v := none) F hr (Or.inl ⟨_, rfl⟩) hW h dX5_findEscort_23
set_option maxHeartbeats 4000000 in
set_option maxRecDepth 100000 in
theorem c_X5_findEscort {l : Launch} (hst : l.stackTraces = false) (G : Ctx) (v0 : Nat) (v1 : Int32) (u : Mem) (K : Option Nat → Mem → Prop) (h : w_X5_findEscort G v0 v1 u K) : CtQ l yX5_findEscort (.code yX5_findEscort cX5_findEscort 2 (some (.object "LanternDesk$Escort"))) 0 0 0 0 G [.ref v0, .int v1] u K := by
  refine entM (by first | decide | decide +kernel) hst (by first | decide | exact Nat.le_of_ble_eq_true rfl) (fun p e s m below meth c ls F hr hnm hW hl => ?_)
  have F : Fx p l s m ([.ref v0, .int v1]).toArray meth c cX5_findEscort 2 RX5 G := F
  have hnm : meth.name = "findEscort" := hnm
  have hl : lv_has ls 2 [(0, .ref v0), (1, .int v1)] := hl
  have hx := F.1.1
  have hb := F.1.2.1
  unfold w_X5_findEscort at h
  refine lv_iload_n hx hb dX5_findEscort_0 rfl (lv_at hl 1 rfl) ?_
  refine lv_if_lt (tgt := 13) hx hb dX5_findEscort_1 (by decide) (fun hc1 => ?_) (fun hc1 => ?_)
  · have h := h.1 hc1
    exact t_X5_findEscort_13 v0 v1 F hr K u _ _ _ h hW (lv_sub hl [0, 1] rfl)
  · have h := h.2 hc1
    refine lv_iload_n hx hb dX5_findEscort_4 rfl (lv_at hl 1 rfl) ?_
    refine lv_aload_n hx hb dX5_findEscort_5 rfl (lv_at hl 0 rfl) ?_
    refine gf_6_1 F hW h.1 q_13 dX5_findEscort_6 ?_
    replace h := h.2
    obtain ⟨r2, er⟩ : ∃ z, z = mR u 193 v0 := ⟨_, rfl⟩
    rw [← er]
    replace h := h r2 er
    clear er
    obtain ⟨a3, ea, h⟩ := h
    subst ea
    refine rLen_12 F hW h.1 dX5_findEscort_9 ?_
    replace h := h.2
    refine lv_icmp_lt (tgt := 17) hx hb dX5_findEscort_10 (by decide) (fun hc4 => ?_) (fun hc4 => ?_)
    · have h := h.1 hc4
      refine lv_aload_n hx hb dX5_findEscort_17 rfl (lv_at hl 0 rfl) ?_
      refine gf_6_1 F hW h.1 q_13 dX5_findEscort_18 ?_
      replace h := h.2
      obtain ⟨r5, er⟩ : ∃ z, z = mR u 193 v0 := ⟨_, rfl⟩
      rw [← er]
      replace h := h r5 er
      clear er
      refine lv_iload_n hx hb dX5_findEscort_21 rfl (lv_at hl 1 rfl) ?_
      obtain ⟨a6, ea, h⟩ := h
      subst ea
      refine rQald_12 F hW h.1 h.2.1 dX5_findEscort_22 ?_
      replace h := h.2.2
      obtain ⟨r7, er⟩ : ∃ z, z = mB u a6 v1.toNatClampNeg := ⟨_, rfl⟩
      rw [← er]
      replace h := h r7 er
      clear er
      exact retQ (v := r7) F hr (Or.inl ⟨_, rfl⟩) hW h dX5_findEscort_23
    · have h := h.2 hc4
      exact t_X5_findEscort_13 v0 v1 F hr K u _ _ _ h hW (lv_sub hl [0, 1] rfl)
set_option maxHeartbeats 4000000 in
set_option maxRecDepth 100000 in
theorem c_X5_isStreet {l : Launch} (hst : l.stackTraces = false) (G : Ctx) (v0 : Int32) (u : Mem) (K : Int32 → Mem → Prop) (h : w_X5_isStreet G v0 u K) : CtI l yX5_isStreet (.code yX5_isStreet cX5_isStreet 1 (some .boolean)) 0 0 0 0 G [.int v0] u K := by
  refine entM (by first | decide | decide +kernel) hst (by first | decide | exact Nat.le_of_ble_eq_true rfl) (fun p e s m below meth c ls F hr hnm hW hl => ?_)
  have F : Fx p l s m ([.int v0]).toArray meth c cX5_isStreet 1 RX5 G := F
  have hnm : meth.name = "isStreet" := hnm
  have hl : lv_has ls 1 [(0, .int v0)] := hl
  have hx := F.1.1
  have hb := F.1.2.1
  unfold w_X5_isStreet at h
  refine lv_iload_n hx hb dX5_isStreet_0 rfl (lv_at hl 0 rfl) ?_
  refine lv_if_lt (tgt := 14) hx hb dX5_isStreet_1 (by decide) (fun hc1 => ?_) (fun hc1 => ?_)
  · have h := h.1 hc1
    refine lv_iconst (v := (0 : Int32)) hx hb dX5_isStreet_14 (by decide) ?_
    exact retZ F hr hW h.1 h.2 dX5_isStreet_15
  · have h := h.2 hc1
    refine lv_iload_n hx hb dX5_isStreet_4 rfl (lv_at hl 0 rfl) ?_
    refine lv_bipush (v := (8 : Int32)) hx hb dX5_isStreet_5 (by decide) ?_
    refine lv_icmp_ge (tgt := 14) hx hb dX5_isStreet_7 (by decide) (fun hc2 => ?_) (fun hc2 => ?_)
    · have h := h.1 hc2
      refine lv_iconst (v := (0 : Int32)) hx hb dX5_isStreet_14 (by decide) ?_
      exact retZ F hr hW h.1 h.2 dX5_isStreet_15
    · have h := h.2 hc2
      refine lv_iconst (v := (1 : Int32)) hx hb dX5_isStreet_10 (by decide) ?_
      refine lv_goto (tgt := 15) hx hb dX5_isStreet_11 (by decide) ?_
      exact retZ F hr hW h.1 h.2 dX5_isStreet_15
set_option maxHeartbeats 4000000 in
set_option maxRecDepth 100000 in
theorem c_X5_place {l : Launch} (hst : l.stackTraces = false) (G : Ctx) (v0 : Nat) (v1 : Int32) (v2 : Int32) (MC MS : Nat) (u : Mem) (K : Int32 → Mem → Prop) (X : String → Mem → Prop) (h : w_X5_place G v0 v1 v2 MC MS u K X) : CtX l yX5_place (.code yX5_place cX5_place 5 (some .int)) 6 100 MC MS G [.ref v0, .int v1, .int v2] u K X := by
  refine entX (by first | decide | decide +kernel) hst (by first | decide | exact Nat.le_of_ble_eq_true rfl) (fun p e s m below meth c ls F hr hout hW hl => ?_)
  have F : Fx p l s m ([.ref v0, .int v1, .int v2]).toArray meth c cX5_place 5 RX5 G := F
  have hl : lv_has ls 5 [(0, .ref v0), (1, .int v1), (2, .int v2)] := hl
  have hx := F.1.1
  have hb := F.1.2.1
  have hbc : 0 + MC = MC := Nat.zero_add _
  have hbs : 0 + MS = MS := Nat.zero_add _
  unfold w_X5_place at h
  refine lv_aload_n hx hb dX5_place_0 rfl (lv_at hl 0 rfl) ?_
  refine lv_iload_n hx hb dX5_place_1 rfl (lv_at hl 1 rfl) ?_
  obtain ⟨hob, h⟩ := h
  refine cQ (runV (n := 1) (As := [.int v1]) (rest := []) F hW (c_X5_findEscort F.2.2.2 G v0 v1 u _ h) hob (ci := 6) rfl q_202 q_203 q_204 q_2 q_205 rfl (by decide +kernel) ⟨Nat.le_of_ble_eq_true rfl, Nat.le_of_ble_eq_true rfl⟩ dX5_place_2 rfl hl.1 (Nat.le_of_ble_eq_true rfl) ⟨Nat.le.intro hbc, Nat.le.intro hbs⟩) hW (fun r2 u1 h9 H locs hW => ?_)
  replace h := h9
  clear h9
  refine rStn (lv' := [(3, va_rf r2), (0, .ref v0), (1, .int v1), (2, .int v2)]) F dX5_place_5 rfl hl (by decide) rfl (fun ls hl9 => ?_)
  replace hl := hl9
  clear hl9
  refine rLdn F dX5_place_6 rfl (lv_at hl 0 rfl) ?_
  cases r2 with
  | none =>
    replace h := h.1 rfl
    refine lv_ifnonnullN hx hb dX5_place_7 ?_
    have h1 := h.1
    have h6 := h.2.1
    have hc1 := bdf hbc h1
    have hs1 := bdf hbs h6
    exact rThrow F hW (cls := "java/lang/IndexOutOfBoundsException") (by decide) q_80 q_81 (List.mem_of_getElem? (i := 5) rfl) (xa_0 F) xg_0 hl.1 dX5_place_10 dX5_place_13 dX5_place_14 dX5_place_16 dX5_place_19 hout (Nat.le_of_ble_eq_true rfl) (Nat.le_of_ble_eq_true rfl) hc1 hs1 h.2.2 hc1 hs1
  | some a3 =>
    replace h := h.2 a3 rfl
    refine lv_ifnonnull (tgt := 20) hx hb dX5_place_7 (by decide) ?_
    refine lv_iload_n hx hb dX5_place_20 rfl (lv_at hl 3 rfl) ?_
    refine cI (runS (n := 1) (As := [.int v2]) (rest := []) F hW (c_X5_isStreet F.2.2.2 G v2 u1 _ h) q_89 q_90 q_2 q_91 (by decide +kernel) ⟨Nat.le_of_ble_eq_true rfl, Nat.le_of_ble_eq_true rfl⟩ dX5_place_21 rfl hl.1 (Nat.le_of_ble_eq_true rfl) ⟨Nat.le.intro hbc, Nat.le.intro hbs⟩) hW (fun r5 u4 h9 H locs hW => ?_)
    replace h := h9
    clear h9
    refine lv_if_ne (tgt := 37) hx hb dX5_place_24 (by decide) (fun hc6 => ?_) (fun hc6 => ?_)
    · have h := h.2 hc6
      refine lv_aload_n hx hb dX5_place_37 rfl (lv_at hl 0 rfl) ?_
      refine gn_2_3 F hW h.1 (List.mem_of_getElem? (i := 6) rfl) dX5_place_38 ?_
      replace h := h.2
      refine lv_if_ne (tgt := 54) hx hb dX5_place_41 (by decide) (fun hc7 => ?_) (fun hc7 => ?_)
      · have h := h.2 hc7
        refine lv_aload_n hx hb dX5_place_54 rfl (lv_at hl 0 rfl) ?_
        refine gn_2_1 F hW h.1 (List.mem_of_getElem? (i := 4) rfl) dX5_place_55 ?_
        replace h := h.2
        refine lv_istore (lv' := [(4, .int (mI u4 65 a3)), (3, .ref a3), (0, .ref v0), (1, .int v1), (2, .int v2)]) hx hb dX5_place_58 hl (by decide) rfl (fun ls hl9 => ?_)
        replace hl := hl9
        clear hl9
        refine lv_aload_n hx hb dX5_place_60 rfl (lv_at hl 1 rfl) ?_
        refine lv_iload_n hx hb dX5_place_61 rfl (lv_at hl 4 rfl) ?_
        refine pn_2_1 F hW (x := v2) h.1 (List.mem_of_getElem? (i := 4) rfl) dX5_place_62 (fun H locs hW => ?_)
        replace h := h.2
        obtain ⟨u8, eu⟩ : ∃ z, z = setI u4 65 a3 v2 := ⟨_, rfl⟩
        rw [← eu] at hW
        replace h := h u8 eu
        clear eu
        refine lv_iload hx hb dX5_place_65 (lv_at hl 0 rfl) ?_
        refine W.widen (k := MC) (n := MS) (Nat.le.intro hbc) (Nat.le.intro hbs) ?_
        exact vx_ret (retI F hr hW h dX5_place_67)
      · have h := h.1 hc7
        have h1 := h.1
        have h6 := h.2.1
        have hc1 := bdf hbc h1
        have hs1 := bdf hbs h6
        exact rThrow F hW (cls := "java/lang/IllegalStateException") (by decide) q_84 q_85 (List.mem_of_getElem? (i := 6) rfl) (xa_2 F) xg_2 hl.1 dX5_place_44 dX5_place_47 dX5_place_48 dX5_place_50 dX5_place_53 hout (Nat.le_of_ble_eq_true rfl) (Nat.le_of_ble_eq_true rfl) hc1 hs1 h.2.2 hc1 hs1
    · have h := h.1 hc6
      have h1 := h.1
      have h6 := h.2.1
      have hc1 := bdf hbc h1
      have hs1 := bdf hbs h6
      exact rThrow F hW (cls := "java/lang/IndexOutOfBoundsException") (by decide) q_80 q_81 (List.mem_of_getElem? (i := 0) rfl) (xa_0 F) xg_0 hl.1 dX5_place_27 dX5_place_30 dX5_place_31 dX5_place_33 dX5_place_36 hout (Nat.le_of_ble_eq_true rfl) (Nat.le_of_ble_eq_true rfl) hc1 hs1 h.2.2 hc1 hs1
set_option maxHeartbeats 4000000 in
set_option maxRecDepth 100000 in
theorem t_X5_areAllOver_2 {p : Program} {l : Launch} {e : Env} {s : State} {m : MethodId} {below : List Frame} {meth : Method} {c : Code} {G : Ctx} (v0 : Nat) (F : Fx p l s m ([.ref v0]).toArray meth c cX5_areAllOver 2 RX5 G) (hr : meth.sig.returnType = (some .boolean)) (K : Int32 → Mem → Prop) : ∀ (n : Nat), ∀ (v1 : Int32) (u : Mem) (H : Heap) (locs : List Loc) (ls : Array Slot), w_X5_areAllOver_2 G v0 K n v1 u → Wd G u s H locs → lv_has ls 2 [(0, .ref v0), (1, .int v1)] → W p l e { frames := 3, cells := 0, slots := 0, locals := 64 } s m ([.ref v0]).toArray below meth c H locs 0 0 (MQ below (va_Qi K (fun u' t => Wp G u' t.heap) (Ab G)) ([.ref v0]).toArray s 0 0 (Ab G)) (F0 m 2 ls []) := by
  have hx := F.1.1
  have hb := F.1.2.1
  intro n
  induction n with
  | zero =>
    intro v1 u H locs ls h hW hl
    exact h.elim
  | succ n hJ2 =>
    intro v1 u H locs ls h hW hl
    have h : b_X5_areAllOver_2 G v0 K (w_X5_areAllOver_2 G v0 K n) v1 u := h
    revert h
    generalize w_X5_areAllOver_2 G v0 K n = J2 at hJ2 ⊢
    intro h
    unfold b_X5_areAllOver_2 at h
    refine lv_iload_n hx hb dX5_areAllOver_2 rfl (lv_at hl 1 rfl) ?_
    refine lv_aload_n hx hb dX5_areAllOver_3 rfl (lv_at hl 0 rfl) ?_
    refine gf_6_2 F hW h.1 q_17 dX5_areAllOver_4 ?_
    replace h := h.2
    obtain ⟨r23, er⟩ : ∃ z, z = mR u 194 v0 := ⟨_, rfl⟩
    rw [← er]
    replace h := h r23 er
    clear er
    obtain ⟨a24, ea, h⟩ := h
    subst ea
    obtain ⟨hob, h⟩ := h
    refine cI (runV (n := 0) (As := []) (rest := [.int v1]) F hW (c_Jx4a65c_size_8abf5 F.2.2.2 G a24 u _ h) hob (ci := 0) rfl q_92 q_93 q_94 q_16 q_95 rfl (by decide +kernel) ⟨Nat.le_of_ble_eq_true rfl, Nat.le_of_ble_eq_true rfl⟩ dX5_areAllOver_7 rfl hl.1 (Nat.le_of_ble_eq_true rfl) ⟨Nat.zero_le _, Nat.zero_le _⟩) hW (fun r26 u25 h9 H locs hW => ?_)
    replace h := h9
    clear h9
    refine lv_icmp_ge (tgt := 39) hx hb dX5_areAllOver_10 (by decide) (fun hc27 => ?_) (fun hc27 => ?_)
    · have h := h.1 hc27
      refine lv_iconst (v := (1 : Int32)) hx hb dX5_areAllOver_39 (by decide) ?_
      exact retZ F hr hW h.1 h.2 dX5_areAllOver_40
    · have h := h.2 hc27
      refine lv_aload_n hx hb dX5_areAllOver_13 rfl (lv_at hl 0 rfl) ?_
      refine gf_6_2 F hW h.1 q_17 dX5_areAllOver_14 ?_
      replace h := h.2
      obtain ⟨r28, er⟩ : ∃ z, z = mR u25 194 v0 := ⟨_, rfl⟩
      rw [← er]
      replace h := h r28 er
      clear er
      refine lv_iload_n hx hb dX5_areAllOver_17 rfl (lv_at hl 1 rfl) ?_
      obtain ⟨a29, ea, h⟩ := h
      subst ea
      obtain ⟨hob, h⟩ := h
      refine cQ (runV (n := 1) (As := [.int v1]) (rest := []) F hW (c_Jx4a65c_get_915e3 F.2.2.2 G a29 v1 u25 _ h) hob (ci := 0) rfl q_215 q_216 q_217 q_16 q_218 rfl (by decide +kernel) ⟨Nat.le_of_ble_eq_true rfl, Nat.le_of_ble_eq_true rfl⟩ dX5_areAllOver_18 rfl hl.1 (Nat.le_of_ble_eq_true rfl) ⟨Nat.zero_le _, Nat.zero_le _⟩) hW (fun r31 u30 h9 H locs hW => ?_)
      replace h := h9
      clear h9
      obtain ⟨a32, ea, h⟩ := h
      subst ea
      refine rCast F hW h.1 (ci := 5) rfl q_214 dX5_areAllOver_21 ?_
      replace h := h.2
      refine gn_5_3 F hW h.1 (List.mem_of_getElem? (i := 10) rfl) dX5_areAllOver_24 ?_
      replace h := h.2
      refine lv_iconst (v := (3 : Int32)) hx hb dX5_areAllOver_27 (by decide) ?_
      refine lv_icmp_eq (tgt := 33) hx hb dX5_areAllOver_28 (by decide) (fun hc33 => ?_) (fun hc33 => ?_)
      · have h := h.1 hc33
        refine lv_iinc (v := (v1 + 1)) (lv' := [(1, .int (v1 + 1)), (0, .ref v0)]) hx hb dX5_areAllOver_33 hl (k := 1) rfl rfl (by decide) rfl (fun ls hl9 => ?_)
        replace hl := hl9
        clear hl9
        refine lv_goto (tgt := 2) hx hb dX5_areAllOver_36 (by decide) ?_
        exact hJ2 (v1 + 1) u30 _ _ _ h hW (lv_sub hl [1, 0] rfl)
      · have h := h.2 hc33
        refine lv_iconst (v := (0 : Int32)) hx hb dX5_areAllOver_31 (by decide) ?_
        exact retZ F hr hW h.1 h.2 dX5_areAllOver_32
set_option maxHeartbeats 4000000 in
set_option maxRecDepth 100000 in
theorem c_X5_areAllOver {l : Launch} (hst : l.stackTraces = false) (G : Ctx) (v0 : Nat) (u : Mem) (K : Int32 → Mem → Prop) (h : w_X5_areAllOver G v0 u K) : CtI l yX5_areAllOver (.code yX5_areAllOver cX5_areAllOver 2 (some .boolean)) 3 64 0 0 G [.ref v0] u K := by
  refine entM (by first | decide | decide +kernel) hst (by first | decide | exact Nat.le_of_ble_eq_true rfl) (fun p e s m below meth c ls F hr hnm hW hl => ?_)
  have F : Fx p l s m ([.ref v0]).toArray meth c cX5_areAllOver 2 RX5 G := F
  have hnm : meth.name = "areAllOver" := hnm
  have hl : lv_has ls 2 [(0, .ref v0)] := hl
  have hx := F.1.1
  have hb := F.1.2.1
  unfold w_X5_areAllOver at h
  refine lv_iconst (v := (0 : Int32)) hx hb dX5_areAllOver_0 (by decide) ?_
  refine lv_istore_n (lv' := [(1, .int (0 : Int32)), (0, .ref v0)]) hx hb dX5_areAllOver_1 rfl hl (by decide) rfl (fun ls hl9 => ?_)
  replace hl := hl9
  clear hl9
  obtain ⟨n, h⟩ := h
  exact t_X5_areAllOver_2 v0 F hr K n (0 : Int32) u _ _ _ h hW (lv_sub hl [1, 0] rfl)
set_option maxHeartbeats 4000000 in
set_option maxRecDepth 100000 in
theorem c_X5_night {l : Launch} (hst : l.stackTraces = false) (G : Ctx) (v0 : Nat) (MC MS : Nat) (u : Mem) (K : Int32 → Mem → Prop) (X : String → Mem → Prop) (h : w_X5_night G v0 MC MS u K X) : CtX l yX5_night (.code yX5_night cX5_night 1 (some .int)) 6 129 MC MS G [.ref v0] u K X := by
  refine entX (by first | decide | decide +kernel) hst (by first | decide | exact Nat.le_of_ble_eq_true rfl) (fun p e s m below meth c ls F hr hout hW hl => ?_)
  have F : Fx p l s m ([.ref v0]).toArray meth c cX5_night 1 RX5 G := F
  have hl : lv_has ls 1 [(0, .ref v0)] := hl
  have hx := F.1.1
  have hb := F.1.2.1
  have hbc : 0 + MC = MC := Nat.zero_add _
  have hbs : 0 + MS = MS := Nat.zero_add _
  unfold w_X5_night at h
  refine lv_aload_n hx hb dX5_night_0 rfl (lv_at hl 0 rfl) ?_
  obtain ⟨hob, h⟩ := h
  refine cI (runV (n := 0) (As := []) (rest := []) F hW (c_X5_areAllOver F.2.2.2 G v0 u _ h) hob (ci := 6) rfl q_210 q_211 q_212 q_2 q_213 rfl (by decide +kernel) ⟨Nat.le_of_ble_eq_true rfl, Nat.le_of_ble_eq_true rfl⟩ dX5_night_1 rfl hl.1 (Nat.le_of_ble_eq_true rfl) ⟨Nat.le.intro hbc, Nat.le.intro hbs⟩) hW (fun r2 u1 h9 H locs hW => ?_)
  replace h := h9
  clear h9
  refine lv_if_ne (tgt := 17) hx hb dX5_night_4 (by decide) (fun hc3 => ?_) (fun hc3 => ?_)
  · have h := h.2 hc3
    refine lv_aload_n hx hb dX5_night_17 rfl (lv_at hl 0 rfl) ?_
    refine gf_6_4 F hW h.1 q_22 dX5_night_18 ?_
    replace h := h.2
    refine lv_sipush (v := (1000 : Int32)) hx hb dX5_night_21 (by decide) ?_
    refine lv_icmp_lt (tgt := 37) hx hb dX5_night_24 (by decide) (fun hc4 => ?_) (fun hc4 => ?_)
    · have h := h.1 hc4
      refine lv_aload_n hx hb dX5_night_37 rfl (lv_at hl 0 rfl) ?_
      refine lv_dup hx hb dX5_night_38 rfl ?_
      refine gf_6_4 F hW h.1 q_22 dX5_night_39 ?_
      replace h := h.2
      refine lv_iconst (v := (1 : Int32)) hx hb dX5_night_42 (by decide) ?_
      refine lv_iadd hx hb dX5_night_43 ?_
      refine pf_6_4 F hW (x := ((mI u1 196 v0) + (1 : Int32))) h.1 q_22 dX5_night_44 (fun H locs hW => ?_)
      replace h := h.2
      obtain ⟨u5, eu⟩ : ∃ z, z = setI u1 196 v0 ((mI u1 196 v0) + (1 : Int32)) := ⟨_, rfl⟩
      rw [← eu] at hW
      replace h := h u5 eu
      clear eu
      refine lv_aload_n hx hb dX5_night_47 rfl (lv_at hl 0 rfl) ?_
      refine lv_iconst (v := (0 : Int32)) hx hb dX5_night_48 (by decide) ?_
      refine pf_6_5 F hW (x := (0 : Int32)) h.1 q_23 dX5_night_49 (fun H locs hW => ?_)
      replace h := h.2
      obtain ⟨u6, eu⟩ : ∃ z, z = setI u5 197 v0 (0 : Int32) := ⟨_, rfl⟩
      rw [← eu] at hW
      replace h := h u6 eu
      clear eu
      refine lv_aload_n hx hb dX5_night_52 rfl (lv_at hl 0 rfl) ?_
      refine gf_6_3 F hW h.1 q_21 dX5_night_53 ?_
      replace h := h.2
      obtain ⟨r7, er⟩ : ∃ z, z = mR u6 195 v0 := ⟨_, rfl⟩
      rw [← er]
      replace h := h r7 er
      clear er
      refine lv_aload_n hx hb dX5_night_56 rfl (lv_at hl 0 rfl) ?_
      refine gf_6_4 F hW h.1 q_22 dX5_night_57 ?_
      replace h := h.2
      obtain ⟨a8, ea, h⟩ := h
      subst ea
      obtain ⟨hob, h⟩ := h
      refine cI (runV (n := 1) (As := [.int (mI u6 196 v0)]) (rest := []) F hW (c_X0_eraseDue F.2.2.2 G a8 (mI u6 196 v0) u6 _ h) hob (ci := 1) rfl q_231 q_232 q_233 q_20 q_234 rfl (by decide +kernel) ⟨Nat.le_of_ble_eq_true rfl, Nat.le_of_ble_eq_true rfl⟩ dX5_night_60 rfl hl.1 (Nat.le_of_ble_eq_true rfl) ⟨Nat.le.intro hbc, Nat.le.intro hbs⟩) hW (fun r10 u9 h9 H locs hW => ?_)
      replace h := h9
      clear h9
      refine W.widen (k := MC) (n := MS) (Nat.le.intro hbc) (Nat.le.intro hbs) ?_
      exact vx_ret (retI F hr hW h dX5_night_63)
    · have h := h.2 hc4
      have h1 := h.1
      have h6 := h.2.1
      have hc1 := bdf hbc h1
      have hs1 := bdf hbs h6
      exact rThrow F hW (cls := "java/lang/IllegalStateException") (by decide) q_84 q_85 (List.mem_of_getElem? (i := 8) rfl) (xa_2 F) xg_2 hl.1 dX5_night_27 dX5_night_30 dX5_night_31 dX5_night_33 dX5_night_36 hout (Nat.le_of_ble_eq_true rfl) (Nat.le_of_ble_eq_true rfl) hc1 hs1 h.2.2 hc1 hs1
  · have h := h.1 hc3
    have h1 := h.1
    have h6 := h.2.1
    have hc1 := bdf hbc h1
    have hs1 := bdf hbs h6
    exact rThrow F hW (cls := "java/lang/IllegalStateException") (by decide) q_84 q_85 (List.mem_of_getElem? (i := 7) rfl) (xa_2 F) xg_2 hl.1 dX5_night_7 dX5_night_10 dX5_night_11 dX5_night_13 dX5_night_16 hout (Nat.le_of_ble_eq_true rfl) (Nat.le_of_ble_eq_true rfl) hc1 hs1 h.2.2 hc1 hs1
set_option maxHeartbeats 4000000 in
set_option maxRecDepth 100000 in
theorem t_X5_findWalk_15 {p : Program} {l : Launch} {e : Env} {s : State} {m : MethodId} {below : List Frame} {meth : Method} {c : Code} {G : Ctx} (v0 : Nat) (v1 : Int32) (F : Fx p l s m ([.ref v0, .int v1]).toArray meth c cX5_findWalk 2 RX5 G) (hr : meth.sig.returnType = (some (.object "LanternDesk$Walk"))) (K : Option Nat → Mem → Prop) : ∀ (u : Mem) (H : Heap) (locs : List Loc) (ls : Array Slot), w_X5_findWalk_15 G v0 v1 K u → Wd G u s H locs → lv_has ls 2 [(0, .ref v0), (1, .int v1)] → W p l e { frames := 3, cells := 0, slots := 0, locals := 64 } s m ([.ref v0, .int v1]).toArray below meth c H locs 0 0 (MQ below (va_Qq K (fun u' t => Wp G u' t.heap) (Ab G)) ([.ref v0, .int v1]).toArray s 0 0 (Ab G)) (F0 m 15 ls []) := by
  have hx := F.1.1
  have hb := F.1.2.1
  intro u H locs ls h hW hl
  unfold w_X5_findWalk_15 at h
  refine lv_null hx hb dX5_findWalk_15 ?_
  refine lv_goto (tgt := 30) hx hb dX5_findWalk_16 (by decide) ?_
  exact retQ (v := none) F hr (Or.inl ⟨_, rfl⟩) hW h dX5_findWalk_30
set_option maxHeartbeats 4000000 in
set_option maxRecDepth 100000 in
theorem c_X5_findWalk {l : Launch} (hst : l.stackTraces = false) (G : Ctx) (v0 : Nat) (v1 : Int32) (u : Mem) (K : Option Nat → Mem → Prop) (h : w_X5_findWalk G v0 v1 u K) : CtQ l yX5_findWalk (.code yX5_findWalk cX5_findWalk 2 (some (.object "LanternDesk$Walk"))) 3 64 0 0 G [.ref v0, .int v1] u K := by
  refine entM (by first | decide | decide +kernel) hst (by first | decide | exact Nat.le_of_ble_eq_true rfl) (fun p e s m below meth c ls F hr hnm hW hl => ?_)
  have F : Fx p l s m ([.ref v0, .int v1]).toArray meth c cX5_findWalk 2 RX5 G := F
  have hnm : meth.name = "findWalk" := hnm
  have hl : lv_has ls 2 [(0, .ref v0), (1, .int v1)] := hl
  have hx := F.1.1
  have hb := F.1.2.1
  unfold w_X5_findWalk at h
  refine lv_iload_n hx hb dX5_findWalk_0 rfl (lv_at hl 1 rfl) ?_
  refine lv_if_lt (tgt := 15) hx hb dX5_findWalk_1 (by decide) (fun hc1 => ?_) (fun hc1 => ?_)
  · have h := h.1 hc1
    exact t_X5_findWalk_15 v0 v1 F hr K u _ _ _ h hW (lv_sub hl [0, 1] rfl)
  · have h := h.2 hc1
    refine lv_iload_n hx hb dX5_findWalk_4 rfl (lv_at hl 1 rfl) ?_
    refine lv_aload_n hx hb dX5_findWalk_5 rfl (lv_at hl 0 rfl) ?_
    refine gf_6_2 F hW h.1 q_17 dX5_findWalk_6 ?_
    replace h := h.2
    obtain ⟨r2, er⟩ : ∃ z, z = mR u 194 v0 := ⟨_, rfl⟩
    rw [← er]
    replace h := h r2 er
    clear er
    obtain ⟨a3, ea, h⟩ := h
    subst ea
    obtain ⟨hob, h⟩ := h
    refine cI (runV (n := 0) (As := []) (rest := [.int v1]) F hW (c_Jx4a65c_size_8abf5 F.2.2.2 G a3 u _ h) hob (ci := 0) rfl q_92 q_93 q_94 q_16 q_95 rfl (by decide +kernel) ⟨Nat.le_of_ble_eq_true rfl, Nat.le_of_ble_eq_true rfl⟩ dX5_findWalk_9 rfl hl.1 (Nat.le_of_ble_eq_true rfl) ⟨Nat.zero_le _, Nat.zero_le _⟩) hW (fun r5 u4 h9 H locs hW => ?_)
    replace h := h9
    clear h9
    refine lv_icmp_lt (tgt := 19) hx hb dX5_findWalk_12 (by decide) (fun hc6 => ?_) (fun hc6 => ?_)
    · have h := h.1 hc6
      refine lv_aload_n hx hb dX5_findWalk_19 rfl (lv_at hl 0 rfl) ?_
      refine gf_6_2 F hW h.1 q_17 dX5_findWalk_20 ?_
      replace h := h.2
      obtain ⟨r7, er⟩ : ∃ z, z = mR u4 194 v0 := ⟨_, rfl⟩
      rw [← er]
      replace h := h r7 er
      clear er
      refine lv_iload_n hx hb dX5_findWalk_23 rfl (lv_at hl 1 rfl) ?_
      obtain ⟨a8, ea, h⟩ := h
      subst ea
      obtain ⟨hob, h⟩ := h
      refine cQ (runV (n := 1) (As := [.int v1]) (rest := []) F hW (c_Jx4a65c_get_915e3 F.2.2.2 G a8 v1 u4 _ h) hob (ci := 0) rfl q_215 q_216 q_217 q_16 q_218 rfl (by decide +kernel) ⟨Nat.le_of_ble_eq_true rfl, Nat.le_of_ble_eq_true rfl⟩ dX5_findWalk_24 rfl hl.1 (Nat.le_of_ble_eq_true rfl) ⟨Nat.zero_le _, Nat.zero_le _⟩) hW (fun r10 u9 h9 H locs hW => ?_)
      replace h := h9
      clear h9
      obtain ⟨a11, ea, h⟩ := h
      subst ea
      refine rCast F hW h.1 (ci := 5) rfl q_214 dX5_findWalk_27 ?_
      replace h := h.2
      exact retQ (v := (some a11)) F hr (Or.inl ⟨_, rfl⟩) hW h dX5_findWalk_30
    · have h := h.2 hc6
      exact t_X5_findWalk_15 v0 v1 F hr K u4 _ _ _ h hW (lv_sub hl [0, 1] rfl)
set_option maxHeartbeats 4000000 in
set_option maxRecDepth 100000 in
theorem t_X5_complain_39 {p : Program} {l : Launch} {e : Env} {s : State} {m : MethodId} {below : List Frame} {meth : Method} {c : Code} {G : Ctx} (v0 : Nat) (v1 : Int32) (v2 : Int32) (MC MS : Nat) (F : Fx p l s m ([.ref v0, .int v1, .int v2]).toArray meth c cX5_complain 5 RX5 G) (hr : meth.sig.returnType = (some .int)) (hout : ∀ x ∈ c.exceptionTable.toList, False) (K : Int32 → Mem → Prop) (X : String → Mem → Prop) : ∀ (mc ms : Nat) (u : Mem) (H : Heap) (locs : List Loc) (cells slots : Nat) (ls : Array Slot), w_X5_complain_39 G v0 v1 v2 K X mc ms u → Wd G u s H locs → lv_has ls 5 [(0, .ref v0), (1, .int v1), (2, .int v2)] → cells + mc = MC → slots + ms = MS → W p l e { frames := 6, cells := MC, slots := MS, locals := 100 } s m ([.ref v0, .int v1, .int v2]).toArray below meth c H locs cells slots (vx_MQ below (va_Qi K (fun u' t => Wp G u' t.heap) (Ab G)) (XCt G X) ([.ref v0, .int v1, .int v2]).toArray s MC MS (Ab G)) (F0 m 39 ls []) := by
  have hx := F.1.1
  have hb := F.1.2.1
  intro mc ms u H locs cells slots ls h hW hl hbc hbs
  unfold w_X5_complain_39 at h
  have h1 := h.1
  have h6 := h.2.1
  have hc1 := bdf hbc h1
  have hs1 := bdf hbs h6
  exact rThrow F hW (cls := "java/lang/IllegalStateException") (by decide) q_84 q_85 (List.mem_of_getElem? (i := 10) rfl) (xa_2 F) xg_2 hl.1 dX5_complain_39 dX5_complain_42 dX5_complain_43 dX5_complain_45 dX5_complain_48 hout (Nat.le_of_ble_eq_true rfl) (Nat.le_of_ble_eq_true rfl) hc1 hs1 h.2.2 hc1 hs1
set_option maxHeartbeats 4000000 in
set_option maxRecDepth 100000 in
theorem t_X5_complain_104 {p : Program} {l : Launch} {e : Env} {s : State} {m : MethodId} {below : List Frame} {meth : Method} {c : Code} {G : Ctx} (v0 : Nat) (v1 : Int32) (v2 : Int32) (MC MS : Nat) (F : Fx p l s m ([.ref v0, .int v1, .int v2]).toArray meth c cX5_complain 5 RX5 G) (hr : meth.sig.returnType = (some .int)) (hout : ∀ x ∈ c.exceptionTable.toList, False) (K : Int32 → Mem → Prop) (X : String → Mem → Prop) : ∀ (v4 : Nat) (s0 : Int32) (s1 : Nat) (mc ms : Nat) (u : Mem) (H : Heap) (locs : List Loc) (cells slots : Nat) (ls : Array Slot), w_X5_complain_104 G v0 v1 v2 K X v4 s0 s1 mc ms u → Wd G u s H locs → lv_has ls 5 [(0, .ref v0), (1, .int v1), (2, .int v2), (4, .ref v4)] → cells + mc = MC → slots + ms = MS → W p l e { frames := 6, cells := MC, slots := MS, locals := 100 } s m ([.ref v0, .int v1, .int v2]).toArray below meth c H locs cells slots (vx_MQ below (va_Qi K (fun u' t => Wp G u' t.heap) (Ab G)) (XCt G X) ([.ref v0, .int v1, .int v2]).toArray s MC MS (Ab G)) (F0 m 104 ls [.int s0, .ref s1]) := by
  have hx := F.1.1
  have hb := F.1.2.1
  intro v4 s0 s1 mc ms u H locs cells slots ls h hW hl hbc hbs
  unfold w_X5_complain_104 at h
  refine pn_2_2 F hW (x := s0) h.1 (List.mem_of_getElem? (i := 5) rfl) dX5_complain_104 (fun H locs hW => ?_)
  replace h := h.2
  obtain ⟨u12, eu⟩ : ∃ z, z = setI u 66 s1 s0 := ⟨_, rfl⟩
  rw [← eu] at hW
  replace h := h u12 eu
  clear eu
  refine lv_aload hx hb dX5_complain_107 (lv_at hl 3 rfl) ?_
  refine gn_2_2 F hW h.1 (List.mem_of_getElem? (i := 5) rfl) dX5_complain_109 ?_
  replace h := h.2
  refine W.widen (k := MC) (n := MS) (Nat.le.intro hbc) (Nat.le.intro hbs) ?_
  exact vx_ret (retI F hr hW h dX5_complain_112)
set_option maxHeartbeats 4000000 in
set_option maxRecDepth 100000 in
theorem c_X5_complain {l : Launch} (hst : l.stackTraces = false) (G : Ctx) (v0 : Nat) (v1 : Int32) (v2 : Int32) (MC MS : Nat) (u : Mem) (K : Int32 → Mem → Prop) (X : String → Mem → Prop) (h : w_X5_complain G v0 v1 v2 MC MS u K X) : CtX l yX5_complain (.code yX5_complain cX5_complain 5 (some .int)) 6 100 MC MS G [.ref v0, .int v1, .int v2] u K X := by
  refine entX (by first | decide | decide +kernel) hst (by first | decide | exact Nat.le_of_ble_eq_true rfl) (fun p e s m below meth c ls F hr hout hW hl => ?_)
  have F : Fx p l s m ([.ref v0, .int v1, .int v2]).toArray meth c cX5_complain 5 RX5 G := F
  have hl : lv_has ls 5 [(0, .ref v0), (1, .int v1), (2, .int v2)] := hl
  have hx := F.1.1
  have hb := F.1.2.1
  have hbc : 0 + MC = MC := Nat.zero_add _
  have hbs : 0 + MS = MS := Nat.zero_add _
  unfold w_X5_complain at h
  refine lv_aload_n hx hb dX5_complain_0 rfl (lv_at hl 0 rfl) ?_
  refine lv_iload_n hx hb dX5_complain_1 rfl (lv_at hl 1 rfl) ?_
  obtain ⟨hob, h⟩ := h
  refine cQ (runV (n := 1) (As := [.int v1]) (rest := []) F hW (c_X5_findWalk F.2.2.2 G v0 v1 u _ h) hob (ci := 6) rfl q_253 q_254 q_255 q_2 q_256 rfl (by decide +kernel) ⟨Nat.le_of_ble_eq_true rfl, Nat.le_of_ble_eq_true rfl⟩ dX5_complain_2 rfl hl.1 (Nat.le_of_ble_eq_true rfl) ⟨Nat.le.intro hbc, Nat.le.intro hbs⟩) hW (fun r2 u1 h9 H locs hW => ?_)
  replace h := h9
  clear h9
  refine rStn (lv' := [(3, va_rf r2), (0, .ref v0), (1, .int v1), (2, .int v2)]) F dX5_complain_5 rfl hl (by decide) rfl (fun ls hl9 => ?_)
  replace hl := hl9
  clear hl9
  refine rLdn F dX5_complain_6 rfl (lv_at hl 0 rfl) ?_
  cases r2 with
  | none =>
    replace h := h.1 rfl
    refine lv_ifnonnullN hx hb dX5_complain_7 ?_
    have h1 := h.1
    have h6 := h.2.1
    have hc1 := bdf hbc h1
    have hs1 := bdf hbs h6
    exact rThrow F hW (cls := "java/lang/IndexOutOfBoundsException") (by decide) q_80 q_81 (List.mem_of_getElem? (i := 9) rfl) (xa_0 F) xg_0 hl.1 dX5_complain_10 dX5_complain_13 dX5_complain_14 dX5_complain_16 dX5_complain_19 hout (Nat.le_of_ble_eq_true rfl) (Nat.le_of_ble_eq_true rfl) hc1 hs1 h.2.2 hc1 hs1
  | some a3 =>
    replace h := h.2 a3 rfl
    refine lv_ifnonnull (tgt := 20) hx hb dX5_complain_7 (by decide) ?_
    refine lv_aload_n hx hb dX5_complain_20 rfl (lv_at hl 0 rfl) ?_
    refine gn_5_4 F hW h.1 (List.mem_of_getElem? (i := 11) rfl) dX5_complain_21 ?_
    replace h := h.2
    obtain ⟨r4, er⟩ : ∃ z, z = mR u1 164 a3 := ⟨_, rfl⟩
    rw [← er]
    replace h := h r4 er
    clear er
    refine rSt (lv' := [(4, va_rf r4), (3, .ref a3), (0, .ref v0), (1, .int v1), (2, .int v2)]) F dX5_complain_24 hl (by decide) rfl (fun ls hl9 => ?_)
    replace hl := hl9
    clear hl9
    refine lv_aload_n hx hb dX5_complain_26 rfl (lv_at hl 1 rfl) ?_
    refine gn_5_3 F hW h.1 (List.mem_of_getElem? (i := 10) rfl) dX5_complain_27 ?_
    replace h := h.2
    refine lv_iconst (v := (3 : Int32)) hx hb dX5_complain_30 (by decide) ?_
    refine lv_icmp_ne (tgt := 39) hx hb dX5_complain_31 (by decide) (fun hc5 => ?_) (fun hc5 => ?_)
    · have h := h.2 hc5
      exact t_X5_complain_39 v0 v1 v2 MC MS F hr hout K X MC MS u1 _ _ _ _ _ h hW (lv_sub hl [2, 3, 4] rfl) hbc hbs
    · have h := h.1 hc5
      refine rLd F dX5_complain_34 (lv_at hl 0 rfl) ?_
      cases r4 with
      | none =>
        replace h := h.1 rfl
        refine lv_ifnonnullN hx hb dX5_complain_36 ?_
        exact t_X5_complain_39 v0 v1 v2 MC MS F hr hout K X MC MS u1 _ _ _ _ _ h hW (lv_sub hl [2, 3, 4] rfl) hbc hbs
      | some a6 =>
        replace h := h.2 a6 rfl
        refine lv_ifnonnull (tgt := 49) hx hb dX5_complain_36 (by decide) ?_
        refine lv_aload_n hx hb dX5_complain_49 rfl (lv_at hl 1 rfl) ?_
        refine gn_5_6 F hW h.1 (List.mem_of_getElem? (i := 13) rfl) dX5_complain_50 ?_
        replace h := h.2
        refine lv_if_eq (tgt := 66) hx hb dX5_complain_53 (by decide) (fun hc7 => ?_) (fun hc7 => ?_)
        · have h := h.1 hc7
          refine lv_aload_n hx hb dX5_complain_66 rfl (lv_at hl 1 rfl) ?_
          refine lv_iconst (v := (1 : Int32)) hx hb dX5_complain_67 (by decide) ?_
          refine pn_5_6 F hW (x := (1 : Int32)) h.1 (List.mem_of_getElem? (i := 13) rfl) h.2.1 dX5_complain_68 (fun H locs hW => ?_)
          replace h := h.2.2
          obtain ⟨u8, eu⟩ : ∃ z, z = setI u1 166 a3 (1 : Int32) := ⟨_, rfl⟩
          rw [← eu] at hW
          replace h := h u8 eu
          clear eu
          refine lv_aload hx hb dX5_complain_71 (lv_at hl 0 rfl) ?_
          refine lv_iload_n hx hb dX5_complain_73 rfl (lv_at hl 4 rfl) ?_
          refine lv_if_eq (tgt := 92) hx hb dX5_complain_74 (by decide) (fun hc9 => ?_) (fun hc9 => ?_)
          · have h := h.1 hc9
            refine lv_iconst (v := (0 : Int32)) hx hb dX5_complain_92 (by decide) ?_
            refine lv_aload hx hb dX5_complain_93 (lv_at hl 0 rfl) ?_
            refine gn_2_2 F hW h.1 (List.mem_of_getElem? (i := 5) rfl) dX5_complain_95 ?_
            replace h := h.2
            refine lv_bipush (v := (10 : Int32)) hx hb dX5_complain_98 (by decide) ?_
            refine lv_isub hx hb dX5_complain_100 ?_
            refine rMax F hl.1 q_252 (Nat.le_of_ble_eq_true rfl) (Nat.le_of_ble_eq_true rfl) (Nat.le.intro hbc) (Nat.le.intro hbs) dX5_complain_101 ?_
            exact t_X5_complain_104 v0 v1 v2 MC MS F hr hout K X a6 (if (0 : Int32) < ((mI u8 66 a6) - (10 : Int32)) then ((mI u8 66 a6) - (10 : Int32)) else (0 : Int32)) a6 MC MS u8 _ _ _ _ _ h hW (lv_sub hl [2, 3, 4, 0] rfl) hbc hbs
          · have h := h.2 hc9
            refine lv_bipush (v := (100 : Int32)) hx hb dX5_complain_77 (by decide) ?_
            refine lv_aload hx hb dX5_complain_79 (lv_at hl 0 rfl) ?_
            refine gn_2_2 F hW h.1 (List.mem_of_getElem? (i := 5) rfl) dX5_complain_81 ?_
            replace h := h.2
            refine lv_iconst (v := (5 : Int32)) hx hb dX5_complain_84 (by decide) ?_
            refine lv_iadd hx hb dX5_complain_85 ?_
            refine rMin F hl.1 q_251 (Nat.le_of_ble_eq_true rfl) (Nat.le_of_ble_eq_true rfl) (Nat.le.intro hbc) (Nat.le.intro hbs) dX5_complain_86 ?_
            refine lv_goto (tgt := 104) hx hb dX5_complain_89 (by decide) ?_
            exact t_X5_complain_104 v0 v1 v2 MC MS F hr hout K X a6 (if ((mI u8 66 a6) + (5 : Int32)) < (100 : Int32) then ((mI u8 66 a6) + (5 : Int32)) else (100 : Int32)) a6 MC MS u8 _ _ _ _ _ h hW (lv_sub hl [2, 3, 4, 0] rfl) hbc hbs
        · have h := h.2 hc7
          have h1 := h.1
          have h6 := h.2.1
          have hc1 := bdf hbc h1
          have hs1 := bdf hbs h6
          exact rThrow F hW (cls := "java/lang/IllegalStateException") (by decide) q_84 q_85 (List.mem_of_getElem? (i := 11) rfl) (xa_2 F) xg_2 hl.1 dX5_complain_56 dX5_complain_59 dX5_complain_60 dX5_complain_62 dX5_complain_65 hout (Nat.le_of_ble_eq_true rfl) (Nat.le_of_ble_eq_true rfl) hc1 hs1 h.2.2 hc1 hs1
set_option maxHeartbeats 4000000 in
set_option maxRecDepth 100000 in
theorem c_X5_day {l : Launch} (hst : l.stackTraces = false) (G : Ctx) (v0 : Nat) (u : Mem) (K : Int32 → Mem → Prop) (h : w_X5_day G v0 u K) : CtI l yX5_day (.code yX5_day cX5_day 1 (some .int)) 0 0 0 0 G [.ref v0] u K := by
  refine entM (by first | decide | decide +kernel) hst (by first | decide | exact Nat.le_of_ble_eq_true rfl) (fun p e s m below meth c ls F hr hnm hW hl => ?_)
  have F : Fx p l s m ([.ref v0]).toArray meth c cX5_day 1 RX5 G := F
  have hnm : meth.name = "day" := hnm
  have hl : lv_has ls 1 [(0, .ref v0)] := hl
  have hx := F.1.1
  have hb := F.1.2.1
  unfold w_X5_day at h
  refine lv_aload_n hx hb dX5_day_0 rfl (lv_at hl 0 rfl) ?_
  refine gf_6_4 F hW h.1 q_22 dX5_day_1 ?_
  replace h := h.2
  exact retI F hr hW h dX5_day_4
set_option maxHeartbeats 4000000 in
set_option maxRecDepth 100000 in
theorem c_X5_minute {l : Launch} (hst : l.stackTraces = false) (G : Ctx) (v0 : Nat) (u : Mem) (K : Int32 → Mem → Prop) (h : w_X5_minute G v0 u K) : CtI l yX5_minute (.code yX5_minute cX5_minute 1 (some .int)) 0 0 0 0 G [.ref v0] u K := by
  refine entM (by first | decide | decide +kernel) hst (by first | decide | exact Nat.le_of_ble_eq_true rfl) (fun p e s m below meth c ls F hr hnm hW hl => ?_)
  have F : Fx p l s m ([.ref v0]).toArray meth c cX5_minute 1 RX5 G := F
  have hnm : meth.name = "minute" := hnm
  have hl : lv_has ls 1 [(0, .ref v0)] := hl
  have hx := F.1.1
  have hb := F.1.2.1
  unfold w_X5_minute at h
  refine lv_aload_n hx hb dX5_minute_0 rfl (lv_at hl 0 rfl) ?_
  refine gf_6_5 F hW h.1 q_23 dX5_minute_1 ?_
  replace h := h.2
  exact retI F hr hW h dX5_minute_4
set_option maxHeartbeats 4000000 in
set_option maxRecDepth 100000 in
theorem c_X5_walks {l : Launch} (hst : l.stackTraces = false) (G : Ctx) (v0 : Nat) (u : Mem) (K : Int32 → Mem → Prop) (h : w_X5_walks G v0 u K) : CtI l yX5_walks (.code yX5_walks cX5_walks 1 (some .int)) 1 20 0 0 G [.ref v0] u K := by
  refine entM (by first | decide | decide +kernel) hst (by first | decide | exact Nat.le_of_ble_eq_true rfl) (fun p e s m below meth c ls F hr hnm hW hl => ?_)
  have F : Fx p l s m ([.ref v0]).toArray meth c cX5_walks 1 RX5 G := F
  have hnm : meth.name = "walks" := hnm
  have hl : lv_has ls 1 [(0, .ref v0)] := hl
  have hx := F.1.1
  have hb := F.1.2.1
  unfold w_X5_walks at h
  refine lv_aload_n hx hb dX5_walks_0 rfl (lv_at hl 0 rfl) ?_
  refine gf_6_2 F hW h.1 q_17 dX5_walks_1 ?_
  replace h := h.2
  obtain ⟨r1, er⟩ : ∃ z, z = mR u 194 v0 := ⟨_, rfl⟩
  rw [← er]
  replace h := h r1 er
  clear er
  obtain ⟨a2, ea, h⟩ := h
  subst ea
  obtain ⟨hob, h⟩ := h
  refine cI (runV (n := 0) (As := []) (rest := []) F hW (c_Jx4a65c_size_8abf5 F.2.2.2 G a2 u _ h) hob (ci := 0) rfl q_92 q_93 q_94 q_16 q_95 rfl (by decide +kernel) ⟨Nat.le_of_ble_eq_true rfl, Nat.le_of_ble_eq_true rfl⟩ dX5_walks_4 rfl hl.1 (Nat.le_of_ble_eq_true rfl) ⟨Nat.zero_le _, Nat.zero_le _⟩) hW (fun r4 u3 h9 H locs hW => ?_)
  replace h := h9
  clear h9
  exact retI F hr hW h dX5_walks_7
set_option maxHeartbeats 4000000 in
set_option maxRecDepth 100000 in
theorem c_X5_taken {l : Launch} (hst : l.stackTraces = false) (G : Ctx) (v0 : Nat) (u : Mem) (K : Int32 → Mem → Prop) (h : w_X5_taken G v0 u K) : CtI l yX5_taken (.code yX5_taken cX5_taken 1 (some .int)) 2 40 0 0 G [.ref v0] u K := by
  refine entM (by first | decide | decide +kernel) hst (by first | decide | exact Nat.le_of_ble_eq_true rfl) (fun p e s m below meth c ls F hr hnm hW hl => ?_)
  have F : Fx p l s m ([.ref v0]).toArray meth c cX5_taken 1 RX5 G := F
  have hnm : meth.name = "taken" := hnm
  have hl : lv_has ls 1 [(0, .ref v0)] := hl
  have hx := F.1.1
  have hb := F.1.2.1
  unfold w_X5_taken at h
  refine lv_aload_n hx hb dX5_taken_0 rfl (lv_at hl 0 rfl) ?_
  refine gf_6_3 F hW h.1 q_21 dX5_taken_1 ?_
  replace h := h.2
  obtain ⟨r1, er⟩ : ∃ z, z = mR u 195 v0 := ⟨_, rfl⟩
  rw [← er]
  replace h := h r1 er
  clear er
  obtain ⟨a2, ea, h⟩ := h
  subst ea
  obtain ⟨hob, h⟩ := h
  refine cI (runV (n := 0) (As := []) (rest := []) F hW (c_X0_countTaken F.2.2.2 G a2 u _ h) hob (ci := 1) rfl q_363 q_364 q_365 q_20 q_366 rfl (by decide +kernel) ⟨Nat.le_of_ble_eq_true rfl, Nat.le_of_ble_eq_true rfl⟩ dX5_taken_4 rfl hl.1 (Nat.le_of_ble_eq_true rfl) ⟨Nat.zero_le _, Nat.zero_le _⟩) hW (fun r4 u3 h9 H locs hW => ?_)
  replace h := h9
  clear h9
  exact retI F hr hW h dX5_taken_7
set_option maxHeartbeats 4000000 in
set_option maxRecDepth 100000 in
theorem t_X5_findStreet_13 {p : Program} {l : Launch} {e : Env} {s : State} {m : MethodId} {below : List Frame} {meth : Method} {c : Code} {G : Ctx} (v0 : Nat) (v1 : Int32) (F : Fx p l s m ([.ref v0, .int v1]).toArray meth c cX5_findStreet 2 RX5 G) (hr : meth.sig.returnType = (some (.object "LanternDesk$Street"))) (K : Option Nat → Mem → Prop) : ∀ (u : Mem) (H : Heap) (locs : List Loc) (ls : Array Slot), w_X5_findStreet_13 G v0 v1 K u → Wd G u s H locs → lv_has ls 2 [(0, .ref v0), (1, .int v1)] → W p l e { frames := 0, cells := 0, slots := 0, locals := 0 } s m ([.ref v0, .int v1]).toArray below meth c H locs 0 0 (MQ below (va_Qq K (fun u' t => Wp G u' t.heap) (Ab G)) ([.ref v0, .int v1]).toArray s 0 0 (Ab G)) (F0 m 13 ls []) := by
  have hx := F.1.1
  have hb := F.1.2.1
  intro u H locs ls h hW hl
  unfold w_X5_findStreet_13 at h
  refine lv_null hx hb dX5_findStreet_13 ?_
  refine lv_goto (tgt := 23) hx hb dX5_findStreet_14 (by decide) ?_
  exact retQ (v := none) F hr (Or.inl ⟨_, rfl⟩) hW h dX5_findStreet_23
set_option maxHeartbeats 4000000 in
set_option maxRecDepth 100000 in
theorem c_X5_findStreet {l : Launch} (hst : l.stackTraces = false) (G : Ctx) (v0 : Nat) (v1 : Int32) (u : Mem) (K : Option Nat → Mem → Prop) (h : w_X5_findStreet G v0 v1 u K) : CtQ l yX5_findStreet (.code yX5_findStreet cX5_findStreet 2 (some (.object "LanternDesk$Street"))) 0 0 0 0 G [.ref v0, .int v1] u K := by
  refine entM (by first | decide | decide +kernel) hst (by first | decide | exact Nat.le_of_ble_eq_true rfl) (fun p e s m below meth c ls F hr hnm hW hl => ?_)
  have F : Fx p l s m ([.ref v0, .int v1]).toArray meth c cX5_findStreet 2 RX5 G := F
  have hnm : meth.name = "findStreet" := hnm
  have hl : lv_has ls 2 [(0, .ref v0), (1, .int v1)] := hl
  have hx := F.1.1
  have hb := F.1.2.1
  unfold w_X5_findStreet at h
  refine lv_iload_n hx hb dX5_findStreet_0 rfl (lv_at hl 1 rfl) ?_
  refine lv_if_lt (tgt := 13) hx hb dX5_findStreet_1 (by decide) (fun hc1 => ?_) (fun hc1 => ?_)
  · have h := h.1 hc1
    exact t_X5_findStreet_13 v0 v1 F hr K u _ _ _ h hW (lv_sub hl [0, 1] rfl)
  · have h := h.2 hc1
    refine lv_iload_n hx hb dX5_findStreet_4 rfl (lv_at hl 1 rfl) ?_
    refine lv_aload_n hx hb dX5_findStreet_5 rfl (lv_at hl 0 rfl) ?_
    refine gf_6_0 F hW h.1 q_11 dX5_findStreet_6 ?_
    replace h := h.2
    obtain ⟨r2, er⟩ : ∃ z, z = mR u 192 v0 := ⟨_, rfl⟩
    rw [← er]
    replace h := h r2 er
    clear er
    obtain ⟨a3, ea, h⟩ := h
    subst ea
    refine rLen_11 F hW h.1 dX5_findStreet_9 ?_
    replace h := h.2
    refine lv_icmp_lt (tgt := 17) hx hb dX5_findStreet_10 (by decide) (fun hc4 => ?_) (fun hc4 => ?_)
    · have h := h.1 hc4
      refine lv_aload_n hx hb dX5_findStreet_17 rfl (lv_at hl 0 rfl) ?_
      refine gf_6_0 F hW h.1 q_11 dX5_findStreet_18 ?_
      replace h := h.2
      obtain ⟨r5, er⟩ : ∃ z, z = mR u 192 v0 := ⟨_, rfl⟩
      rw [← er]
      replace h := h r5 er
      clear er
      refine lv_iload_n hx hb dX5_findStreet_21 rfl (lv_at hl 1 rfl) ?_
      obtain ⟨a6, ea, h⟩ := h
      subst ea
      refine rQald_11 F hW h.1 h.2.1 dX5_findStreet_22 ?_
      replace h := h.2.2
      obtain ⟨r7, er⟩ : ∃ z, z = mB u a6 v1.toNatClampNeg := ⟨_, rfl⟩
      rw [← er]
      replace h := h r7 er
      clear er
      exact retQ (v := r7) F hr (Or.inl ⟨_, rfl⟩) hW h dX5_findStreet_23
    · have h := h.2 hc4
      exact t_X5_findStreet_13 v0 v1 F hr K u _ _ _ h hW (lv_sub hl [0, 1] rfl)
set_option maxHeartbeats 4000000 in
set_option maxRecDepth 100000 in
theorem c_X5_purse {l : Launch} (hst : l.stackTraces = false) (G : Ctx) (v0 : Nat) (v1 : Int32) (MC MS : Nat) (u : Mem) (K : Int32 → Mem → Prop) (X : String → Mem → Prop) (h : w_X5_purse G v0 v1 MC MS u K X) : CtX l yX5_purse (.code yX5_purse cX5_purse 3 (some .int)) 6 100 MC MS G [.ref v0, .int v1] u K X := by
  refine entX (by first | decide | decide +kernel) hst (by first | decide | exact Nat.le_of_ble_eq_true rfl) (fun p e s m below meth c ls F hr hout hW hl => ?_)
  have F : Fx p l s m ([.ref v0, .int v1]).toArray meth c cX5_purse 3 RX5 G := F
  have hl : lv_has ls 3 [(0, .ref v0), (1, .int v1)] := hl
  have hx := F.1.1
  have hb := F.1.2.1
  have hbc : 0 + MC = MC := Nat.zero_add _
  have hbs : 0 + MS = MS := Nat.zero_add _
  unfold w_X5_purse at h
  refine lv_aload_n hx hb dX5_purse_0 rfl (lv_at hl 0 rfl) ?_
  refine lv_iload_n hx hb dX5_purse_1 rfl (lv_at hl 1 rfl) ?_
  obtain ⟨hob, h⟩ := h
  refine cQ (runV (n := 1) (As := [.int v1]) (rest := []) F hW (c_X5_findStreet F.2.2.2 G v0 v1 u _ h) hob (ci := 6) rfl q_169 q_170 q_171 q_2 q_172 rfl (by decide +kernel) ⟨Nat.le_of_ble_eq_true rfl, Nat.le_of_ble_eq_true rfl⟩ dX5_purse_2 rfl hl.1 (Nat.le_of_ble_eq_true rfl) ⟨Nat.le.intro hbc, Nat.le.intro hbs⟩) hW (fun r2 u1 h9 H locs hW => ?_)
  replace h := h9
  clear h9
  refine rStn (lv' := [(2, va_rf r2), (0, .ref v0), (1, .int v1)]) F dX5_purse_5 rfl hl (by decide) rfl (fun ls hl9 => ?_)
  replace hl := hl9
  clear hl9
  refine rLdn F dX5_purse_6 rfl (lv_at hl 0 rfl) ?_
  cases r2 with
  | none =>
    replace h := h.1 rfl
    refine lv_ifnonnullN hx hb dX5_purse_7 ?_
    have h1 := h.1
    have h6 := h.2.1
    have hc1 := bdf hbc h1
    have hs1 := bdf hbs h6
    exact rThrow F hW (cls := "java/lang/IndexOutOfBoundsException") (by decide) q_80 q_81 (List.mem_of_getElem? (i := 0) rfl) (xa_0 F) xg_0 hl.1 dX5_purse_10 dX5_purse_13 dX5_purse_14 dX5_purse_16 dX5_purse_19 hout (Nat.le_of_ble_eq_true rfl) (Nat.le_of_ble_eq_true rfl) hc1 hs1 h.2.2 hc1 hs1
  | some a3 =>
    replace h := h.2 a3 rfl
    refine lv_ifnonnull (tgt := 20) hx hb dX5_purse_7 (by decide) ?_
    refine lv_aload_n hx hb dX5_purse_20 rfl (lv_at hl 0 rfl) ?_
    refine gn_4_0 F hW h.1 (List.mem_of_getElem? (i := 0) rfl) dX5_purse_21 ?_
    replace h := h.2
    refine W.widen (k := MC) (n := MS) (Nat.le.intro hbc) (Nat.le.intro hbs) ?_
    exact vx_ret (retI F hr hW h dX5_purse_24)
set_option maxHeartbeats 4000000 in
set_option maxRecDepth 100000 in
theorem c_X5_stepsUp {l : Launch} (hst : l.stackTraces = false) (G : Ctx) (v0 : Int32) (v1 : Int32) (u : Mem) (K : Int32 → Mem → Prop) (h : w_X5_stepsUp G v0 v1 u K) : CtI l yX5_stepsUp (.code yX5_stepsUp cX5_stepsUp 2 (some .int)) 1 22 0 0 G [.int v0, .int v1] u K := by
  refine entM (by first | decide | decide +kernel) hst (by first | decide | exact Nat.le_of_ble_eq_true rfl) (fun p e s m below meth c ls F hr hnm hW hl => ?_)
  have F : Fx p l s m ([.int v0, .int v1]).toArray meth c cX5_stepsUp 2 RX5 G := F
  have hnm : meth.name = "stepsUp" := hnm
  have hl : lv_has ls 2 [(0, .int v0), (1, .int v1)] := hl
  have hx := F.1.1
  have hb := F.1.2.1
  unfold w_X5_stepsUp at h
  refine lv_iload_n hx hb dX5_stepsUp_0 rfl (lv_at hl 1 rfl) ?_
  refine lv_iload_n hx hb dX5_stepsUp_1 rfl (lv_at hl 0 rfl) ?_
  refine lv_isub hx hb dX5_stepsUp_2 ?_
  refine lv_bipush (v := (8 : Int32)) hx hb dX5_stepsUp_3 (by decide) ?_
  refine cI (runS (n := 2) (As := [.int (v1 - v0), .int (8 : Int32)]) (rest := []) F hW (c_J9_floorMod_7cf53 F.2.2.2 G (v1 - v0) (8 : Int32) u _ h) q_281 q_282 q_283 q_284 (by decide +kernel) ⟨Nat.le_of_ble_eq_true rfl, Nat.le_of_ble_eq_true rfl⟩ dX5_stepsUp_5 rfl hl.1 (Nat.le_of_ble_eq_true rfl) ⟨Nat.zero_le _, Nat.zero_le _⟩) hW (fun r2 u1 h9 H locs hW => ?_)
  replace h := h9
  clear h9
  exact retI F hr hW h dX5_stepsUp_8
set_option maxHeartbeats 4000000 in
set_option maxRecDepth 100000 in
theorem c_X5_distance {l : Launch} (hst : l.stackTraces = false) (G : Ctx) (v0 : Int32) (v1 : Int32) (u : Mem) (K : Int32 → Mem → Prop) (h : w_X5_distance G v0 v1 u K) : CtI l yX5_distance (.code yX5_distance cX5_distance 3 (some .int)) 2 43 0 0 G [.int v0, .int v1] u K := by
  refine entM (by first | decide | decide +kernel) hst (by first | decide | exact Nat.le_of_ble_eq_true rfl) (fun p e s m below meth c ls F hr hnm hW hl => ?_)
  have F : Fx p l s m ([.int v0, .int v1]).toArray meth c cX5_distance 3 RX5 G := F
  have hnm : meth.name = "distance" := hnm
  have hl : lv_has ls 3 [(0, .int v0), (1, .int v1)] := hl
  have hx := F.1.1
  have hb := F.1.2.1
  unfold w_X5_distance at h
  refine lv_iload_n hx hb dX5_distance_0 rfl (lv_at hl 0 rfl) ?_
  refine lv_iload_n hx hb dX5_distance_1 rfl (lv_at hl 1 rfl) ?_
  refine cI (runS (n := 2) (As := [.int v0, .int v1]) (rest := []) F hW (c_X5_stepsUp F.2.2.2 G v0 v1 u _ h) q_278 q_279 q_2 q_280 (by decide +kernel) ⟨Nat.le_of_ble_eq_true rfl, Nat.le_of_ble_eq_true rfl⟩ dX5_distance_2 rfl hl.1 (Nat.le_of_ble_eq_true rfl) ⟨Nat.zero_le _, Nat.zero_le _⟩) hW (fun r2 u1 h9 H locs hW => ?_)
  replace h := h9
  clear h9
  refine lv_istore_n (lv' := [(2, .int r2), (0, .int v0), (1, .int v1)]) hx hb dX5_distance_5 rfl hl (by decide) rfl (fun ls hl9 => ?_)
  replace hl := hl9
  clear hl9
  refine lv_iload_n hx hb dX5_distance_6 rfl (lv_at hl 0 rfl) ?_
  refine lv_bipush (v := (8 : Int32)) hx hb dX5_distance_7 (by decide) ?_
  refine lv_iload_n hx hb dX5_distance_9 rfl (lv_at hl 0 rfl) ?_
  refine lv_isub hx hb dX5_distance_10 ?_
  refine rMin F hl.1 q_251 (Nat.le_of_ble_eq_true rfl) (Nat.le_of_ble_eq_true rfl) (Nat.zero_le _) (Nat.zero_le _) dX5_distance_11 ?_
  exact retI F hr hW h dX5_distance_14
set_option maxHeartbeats 4000000 in
set_option maxRecDepth 100000 in
theorem t_X5_way_14 {p : Program} {l : Launch} {e : Env} {s : State} {m : MethodId} {below : List Frame} {meth : Method} {c : Code} {G : Ctx} (v0 : Nat) (v1 : Int32) (v2 : Int32) (MC MS : Nat) (F : Fx p l s m ([.ref v0, .int v1, .int v2]).toArray meth c cX5_way 3 RX5 G) (hr : meth.sig.returnType = (some .int)) (hout : ∀ x ∈ c.exceptionTable.toList, False) (K : Int32 → Mem → Prop) (X : String → Mem → Prop) : ∀ (mc ms : Nat) (u : Mem) (H : Heap) (locs : List Loc) (cells slots : Nat) (ls : Array Slot), w_X5_way_14 G v0 v1 v2 K X mc ms u → Wd G u s H locs → lv_has ls 3 [(0, .ref v0), (1, .int v1), (2, .int v2)] → cells + mc = MC → slots + ms = MS → W p l e { frames := 6, cells := MC, slots := MS, locals := 100 } s m ([.ref v0, .int v1, .int v2]).toArray below meth c H locs cells slots (vx_MQ below (va_Qi K (fun u' t => Wp G u' t.heap) (Ab G)) (XCt G X) ([.ref v0, .int v1, .int v2]).toArray s MC MS (Ab G)) (F0 m 14 ls []) := by
  have hx := F.1.1
  have hb := F.1.2.1
  intro mc ms u H locs cells slots ls h hW hl hbc hbs
  unfold w_X5_way_14 at h
  have h1 := h.1
  have h6 := h.2.1
  have hc1 := bdf hbc h1
  have hs1 := bdf hbs h6
  exact rThrow F hW (cls := "java/lang/IndexOutOfBoundsException") (by decide) q_80 q_81 (List.mem_of_getElem? (i := 0) rfl) (xa_0 F) xg_0 hl.1 dX5_way_14 dX5_way_17 dX5_way_18 dX5_way_20 dX5_way_23 hout (Nat.le_of_ble_eq_true rfl) (Nat.le_of_ble_eq_true rfl) hc1 hs1 h.2.2 hc1 hs1
set_option maxHeartbeats 4000000 in
set_option maxRecDepth 100000 in
theorem c_X5_way {l : Launch} (hst : l.stackTraces = false) (G : Ctx) (v0 : Nat) (v1 : Int32) (v2 : Int32) (MC MS : Nat) (u : Mem) (K : Int32 → Mem → Prop) (X : String → Mem → Prop) (h : w_X5_way G v0 v1 v2 MC MS u K X) : CtX l yX5_way (.code yX5_way cX5_way 3 (some .int)) 6 100 MC MS G [.ref v0, .int v1, .int v2] u K X := by
  refine entX (by first | decide | decide +kernel) hst (by first | decide | exact Nat.le_of_ble_eq_true rfl) (fun p e s m below meth c ls F hr hout hW hl => ?_)
  have F : Fx p l s m ([.ref v0, .int v1, .int v2]).toArray meth c cX5_way 3 RX5 G := F
  have hl : lv_has ls 3 [(0, .ref v0), (1, .int v1), (2, .int v2)] := hl
  have hx := F.1.1
  have hb := F.1.2.1
  have hbc : 0 + MC = MC := Nat.zero_add _
  have hbs : 0 + MS = MS := Nat.zero_add _
  unfold w_X5_way at h
  refine lv_iload_n hx hb dX5_way_0 rfl (lv_at hl 1 rfl) ?_
  refine cI (runS (n := 1) (As := [.int v1]) (rest := []) F hW (c_X5_isStreet F.2.2.2 G v1 u _ h) q_89 q_90 q_2 q_91 (by decide +kernel) ⟨Nat.le_of_ble_eq_true rfl, Nat.le_of_ble_eq_true rfl⟩ dX5_way_1 rfl hl.1 (Nat.le_of_ble_eq_true rfl) ⟨Nat.le.intro hbc, Nat.le.intro hbs⟩) hW (fun r2 u1 h9 H locs hW => ?_)
  replace h := h9
  clear h9
  refine lv_if_eq (tgt := 14) hx hb dX5_way_4 (by decide) (fun hc3 => ?_) (fun hc3 => ?_)
  · have h := h.1 hc3
    exact t_X5_way_14 v0 v1 v2 MC MS F hr hout K X MC MS u1 _ _ _ _ _ h hW (lv_sub hl [0, 1, 2] rfl) hbc hbs
  · have h := h.2 hc3
    refine lv_iload_n hx hb dX5_way_7 rfl (lv_at hl 2 rfl) ?_
    refine cI (runS (n := 1) (As := [.int v2]) (rest := []) F hW (c_X5_isStreet F.2.2.2 G v2 u1 _ h) q_89 q_90 q_2 q_91 (by decide +kernel) ⟨Nat.le_of_ble_eq_true rfl, Nat.le_of_ble_eq_true rfl⟩ dX5_way_8 rfl hl.1 (Nat.le_of_ble_eq_true rfl) ⟨Nat.le.intro hbc, Nat.le.intro hbs⟩) hW (fun r5 u4 h9 H locs hW => ?_)
    replace h := h9
    clear h9
    refine lv_if_ne (tgt := 24) hx hb dX5_way_11 (by decide) (fun hc6 => ?_) (fun hc6 => ?_)
    · have h := h.2 hc6
      refine lv_iload_n hx hb dX5_way_24 rfl (lv_at hl 1 rfl) ?_
      refine lv_iload_n hx hb dX5_way_25 rfl (lv_at hl 2 rfl) ?_
      refine cI (runS (n := 2) (As := [.int v1, .int v2]) (rest := []) F hW (c_X5_distance F.2.2.2 G v1 v2 u4 _ h) q_275 q_276 q_2 q_277 (by decide +kernel) ⟨Nat.le_of_ble_eq_true rfl, Nat.le_of_ble_eq_true rfl⟩ dX5_way_26 rfl hl.1 (Nat.le_of_ble_eq_true rfl) ⟨Nat.le.intro hbc, Nat.le.intro hbs⟩) hW (fun r8 u7 h9 H locs hW => ?_)
      replace h := h9
      clear h9
      refine W.widen (k := MC) (n := MS) (Nat.le.intro hbc) (Nat.le.intro hbs) ?_
      exact vx_ret (retI F hr hW h dX5_way_29)
    · have h := h.1 hc6
      exact t_X5_way_14 v0 v1 v2 MC MS F hr hout K X MC MS u4 _ _ _ _ _ h hW (lv_sub hl [0, 1, 2] rfl) hbc hbs
set_option maxHeartbeats 4000000 in
set_option maxRecDepth 100000 in
theorem c_X5_streetOf {l : Launch} (hst : l.stackTraces = false) (G : Ctx) (v0 : Nat) (v1 : Int32) (MC MS : Nat) (u : Mem) (K : Int32 → Mem → Prop) (X : String → Mem → Prop) (h : w_X5_streetOf G v0 v1 MC MS u K X) : CtX l yX5_streetOf (.code yX5_streetOf cX5_streetOf 3 (some .int)) 6 100 MC MS G [.ref v0, .int v1] u K X := by
  refine entX (by first | decide | decide +kernel) hst (by first | decide | exact Nat.le_of_ble_eq_true rfl) (fun p e s m below meth c ls F hr hout hW hl => ?_)
  have F : Fx p l s m ([.ref v0, .int v1]).toArray meth c cX5_streetOf 3 RX5 G := F
  have hl : lv_has ls 3 [(0, .ref v0), (1, .int v1)] := hl
  have hx := F.1.1
  have hb := F.1.2.1
  have hbc : 0 + MC = MC := Nat.zero_add _
  have hbs : 0 + MS = MS := Nat.zero_add _
  unfold w_X5_streetOf at h
  refine lv_aload_n hx hb dX5_streetOf_0 rfl (lv_at hl 0 rfl) ?_
  refine lv_iload_n hx hb dX5_streetOf_1 rfl (lv_at hl 1 rfl) ?_
  obtain ⟨hob, h⟩ := h
  refine cQ (runV (n := 1) (As := [.int v1]) (rest := []) F hW (c_X5_findEscort F.2.2.2 G v0 v1 u _ h) hob (ci := 6) rfl q_202 q_203 q_204 q_2 q_205 rfl (by decide +kernel) ⟨Nat.le_of_ble_eq_true rfl, Nat.le_of_ble_eq_true rfl⟩ dX5_streetOf_2 rfl hl.1 (Nat.le_of_ble_eq_true rfl) ⟨Nat.le.intro hbc, Nat.le.intro hbs⟩) hW (fun r2 u1 h9 H locs hW => ?_)
  replace h := h9
  clear h9
  refine rStn (lv' := [(2, va_rf r2), (0, .ref v0), (1, .int v1)]) F dX5_streetOf_5 rfl hl (by decide) rfl (fun ls hl9 => ?_)
  replace hl := hl9
  clear hl9
  refine rLdn F dX5_streetOf_6 rfl (lv_at hl 0 rfl) ?_
  cases r2 with
  | none =>
    replace h := h.1 rfl
    refine lv_ifnonnullN hx hb dX5_streetOf_7 ?_
    have h1 := h.1
    have h6 := h.2.1
    have hc1 := bdf hbc h1
    have hs1 := bdf hbs h6
    exact rThrow F hW (cls := "java/lang/IndexOutOfBoundsException") (by decide) q_80 q_81 (List.mem_of_getElem? (i := 5) rfl) (xa_0 F) xg_0 hl.1 dX5_streetOf_10 dX5_streetOf_13 dX5_streetOf_14 dX5_streetOf_16 dX5_streetOf_19 hout (Nat.le_of_ble_eq_true rfl) (Nat.le_of_ble_eq_true rfl) hc1 hs1 h.2.2 hc1 hs1
  | some a3 =>
    replace h := h.2 a3 rfl
    refine lv_ifnonnull (tgt := 20) hx hb dX5_streetOf_7 (by decide) ?_
    refine lv_aload_n hx hb dX5_streetOf_20 rfl (lv_at hl 0 rfl) ?_
    refine gn_2_1 F hW h.1 (List.mem_of_getElem? (i := 4) rfl) dX5_streetOf_21 ?_
    replace h := h.2
    refine W.widen (k := MC) (n := MS) (Nat.le.intro hbc) (Nat.le.intro hbs) ?_
    exact vx_ret (retI F hr hW h dX5_streetOf_24)
set_option maxHeartbeats 4000000 in
set_option maxRecDepth 100000 in
theorem c_X5_rank {l : Launch} (hst : l.stackTraces = false) (G : Ctx) (v0 : Nat) (v1 : Int32) (MC MS : Nat) (u : Mem) (K : Int32 → Mem → Prop) (X : String → Mem → Prop) (h : w_X5_rank G v0 v1 MC MS u K X) : CtX l yX5_rank (.code yX5_rank cX5_rank 3 (some .int)) 6 100 MC MS G [.ref v0, .int v1] u K X := by
  refine entX (by first | decide | decide +kernel) hst (by first | decide | exact Nat.le_of_ble_eq_true rfl) (fun p e s m below meth c ls F hr hout hW hl => ?_)
  have F : Fx p l s m ([.ref v0, .int v1]).toArray meth c cX5_rank 3 RX5 G := F
  have hl : lv_has ls 3 [(0, .ref v0), (1, .int v1)] := hl
  have hx := F.1.1
  have hb := F.1.2.1
  have hbc : 0 + MC = MC := Nat.zero_add _
  have hbs : 0 + MS = MS := Nat.zero_add _
  unfold w_X5_rank at h
  refine lv_aload_n hx hb dX5_rank_0 rfl (lv_at hl 0 rfl) ?_
  refine lv_iload_n hx hb dX5_rank_1 rfl (lv_at hl 1 rfl) ?_
  obtain ⟨hob, h⟩ := h
  refine cQ (runV (n := 1) (As := [.int v1]) (rest := []) F hW (c_X5_findEscort F.2.2.2 G v0 v1 u _ h) hob (ci := 6) rfl q_202 q_203 q_204 q_2 q_205 rfl (by decide +kernel) ⟨Nat.le_of_ble_eq_true rfl, Nat.le_of_ble_eq_true rfl⟩ dX5_rank_2 rfl hl.1 (Nat.le_of_ble_eq_true rfl) ⟨Nat.le.intro hbc, Nat.le.intro hbs⟩) hW (fun r2 u1 h9 H locs hW => ?_)
  replace h := h9
  clear h9
  refine rStn (lv' := [(2, va_rf r2), (0, .ref v0), (1, .int v1)]) F dX5_rank_5 rfl hl (by decide) rfl (fun ls hl9 => ?_)
  replace hl := hl9
  clear hl9
  refine rLdn F dX5_rank_6 rfl (lv_at hl 0 rfl) ?_
  cases r2 with
  | none =>
    replace h := h.1 rfl
    refine lv_ifnonnullN hx hb dX5_rank_7 ?_
    have h1 := h.1
    have h6 := h.2.1
    have hc1 := bdf hbc h1
    have hs1 := bdf hbs h6
    exact rThrow F hW (cls := "java/lang/IndexOutOfBoundsException") (by decide) q_80 q_81 (List.mem_of_getElem? (i := 5) rfl) (xa_0 F) xg_0 hl.1 dX5_rank_10 dX5_rank_13 dX5_rank_14 dX5_rank_16 dX5_rank_19 hout (Nat.le_of_ble_eq_true rfl) (Nat.le_of_ble_eq_true rfl) hc1 hs1 h.2.2 hc1 hs1
  | some a3 =>
    replace h := h.2 a3 rfl
    refine lv_ifnonnull (tgt := 20) hx hb dX5_rank_7 (by decide) ?_
    refine lv_aload_n hx hb dX5_rank_20 rfl (lv_at hl 0 rfl) ?_
    refine gn_2_2 F hW h.1 (List.mem_of_getElem? (i := 5) rfl) dX5_rank_21 ?_
    replace h := h.2
    refine W.widen (k := MC) (n := MS) (Nat.le.intro hbc) (Nat.le.intro hbs) ?_
    exact vx_ret (retI F hr hW h dX5_rank_24)
set_option maxHeartbeats 4000000 in
set_option maxRecDepth 100000 in
theorem c_X5_state {l : Launch} (hst : l.stackTraces = false) (G : Ctx) (v0 : Nat) (v1 : Int32) (MC MS : Nat) (u : Mem) (K : Int32 → Mem → Prop) (X : String → Mem → Prop) (h : w_X5_state G v0 v1 MC MS u K X) : CtX l yX5_state (.code yX5_state cX5_state 3 (some .int)) 6 100 MC MS G [.ref v0, .int v1] u K X := by
  refine entX (by first | decide | decide +kernel) hst (by first | decide | exact Nat.le_of_ble_eq_true rfl) (fun p e s m below meth c ls F hr hout hW hl => ?_)
  have F : Fx p l s m ([.ref v0, .int v1]).toArray meth c cX5_state 3 RX5 G := F
  have hl : lv_has ls 3 [(0, .ref v0), (1, .int v1)] := hl
  have hx := F.1.1
  have hb := F.1.2.1
  have hbc : 0 + MC = MC := Nat.zero_add _
  have hbs : 0 + MS = MS := Nat.zero_add _
  unfold w_X5_state at h
  refine lv_aload_n hx hb dX5_state_0 rfl (lv_at hl 0 rfl) ?_
  refine lv_iload_n hx hb dX5_state_1 rfl (lv_at hl 1 rfl) ?_
  obtain ⟨hob, h⟩ := h
  refine cQ (runV (n := 1) (As := [.int v1]) (rest := []) F hW (c_X5_findWalk F.2.2.2 G v0 v1 u _ h) hob (ci := 6) rfl q_253 q_254 q_255 q_2 q_256 rfl (by decide +kernel) ⟨Nat.le_of_ble_eq_true rfl, Nat.le_of_ble_eq_true rfl⟩ dX5_state_2 rfl hl.1 (Nat.le_of_ble_eq_true rfl) ⟨Nat.le.intro hbc, Nat.le.intro hbs⟩) hW (fun r2 u1 h9 H locs hW => ?_)
  replace h := h9
  clear h9
  refine rStn (lv' := [(2, va_rf r2), (0, .ref v0), (1, .int v1)]) F dX5_state_5 rfl hl (by decide) rfl (fun ls hl9 => ?_)
  replace hl := hl9
  clear hl9
  refine rLdn F dX5_state_6 rfl (lv_at hl 0 rfl) ?_
  cases r2 with
  | none =>
    replace h := h.1 rfl
    refine lv_ifnonnullN hx hb dX5_state_7 ?_
    have h1 := h.1
    have h6 := h.2.1
    have hc1 := bdf hbc h1
    have hs1 := bdf hbs h6
    exact rThrow F hW (cls := "java/lang/IndexOutOfBoundsException") (by decide) q_80 q_81 (List.mem_of_getElem? (i := 9) rfl) (xa_0 F) xg_0 hl.1 dX5_state_10 dX5_state_13 dX5_state_14 dX5_state_16 dX5_state_19 hout (Nat.le_of_ble_eq_true rfl) (Nat.le_of_ble_eq_true rfl) hc1 hs1 h.2.2 hc1 hs1
  | some a3 =>
    replace h := h.2 a3 rfl
    refine lv_ifnonnull (tgt := 20) hx hb dX5_state_7 (by decide) ?_
    refine lv_aload_n hx hb dX5_state_20 rfl (lv_at hl 0 rfl) ?_
    refine gn_5_3 F hW h.1 (List.mem_of_getElem? (i := 10) rfl) dX5_state_21 ?_
    replace h := h.2
    refine W.widen (k := MC) (n := MS) (Nat.le.intro hbc) (Nat.le.intro hbs) ?_
    exact vx_ret (retI F hr hW h dX5_state_24)
set_option maxHeartbeats 4000000 in
set_option maxRecDepth 100000 in
theorem c_X5_escortOf {l : Launch} (hst : l.stackTraces = false) (G : Ctx) (v0 : Nat) (v1 : Int32) (MC MS : Nat) (u : Mem) (K : Int32 → Mem → Prop) (X : String → Mem → Prop) (h : w_X5_escortOf G v0 v1 MC MS u K X) : CtX l yX5_escortOf (.code yX5_escortOf cX5_escortOf 4 (some .int)) 6 100 MC MS G [.ref v0, .int v1] u K X := by
  refine entX (by first | decide | decide +kernel) hst (by first | decide | exact Nat.le_of_ble_eq_true rfl) (fun p e s m below meth c ls F hr hout hW hl => ?_)
  have F : Fx p l s m ([.ref v0, .int v1]).toArray meth c cX5_escortOf 4 RX5 G := F
  have hl : lv_has ls 4 [(0, .ref v0), (1, .int v1)] := hl
  have hx := F.1.1
  have hb := F.1.2.1
  have hbc : 0 + MC = MC := Nat.zero_add _
  have hbs : 0 + MS = MS := Nat.zero_add _
  unfold w_X5_escortOf at h
  refine lv_aload_n hx hb dX5_escortOf_0 rfl (lv_at hl 0 rfl) ?_
  refine lv_iload_n hx hb dX5_escortOf_1 rfl (lv_at hl 1 rfl) ?_
  obtain ⟨hob, h⟩ := h
  refine cQ (runV (n := 1) (As := [.int v1]) (rest := []) F hW (c_X5_findWalk F.2.2.2 G v0 v1 u _ h) hob (ci := 6) rfl q_253 q_254 q_255 q_2 q_256 rfl (by decide +kernel) ⟨Nat.le_of_ble_eq_true rfl, Nat.le_of_ble_eq_true rfl⟩ dX5_escortOf_2 rfl hl.1 (Nat.le_of_ble_eq_true rfl) ⟨Nat.le.intro hbc, Nat.le.intro hbs⟩) hW (fun r2 u1 h9 H locs hW => ?_)
  replace h := h9
  clear h9
  refine rStn (lv' := [(2, va_rf r2), (0, .ref v0), (1, .int v1)]) F dX5_escortOf_5 rfl hl (by decide) rfl (fun ls hl9 => ?_)
  replace hl := hl9
  clear hl9
  refine rLdn F dX5_escortOf_6 rfl (lv_at hl 0 rfl) ?_
  cases r2 with
  | none =>
    replace h := h.1 rfl
    refine lv_ifnonnullN hx hb dX5_escortOf_7 ?_
    have h1 := h.1
    have h6 := h.2.1
    have hc1 := bdf hbc h1
    have hs1 := bdf hbs h6
    exact rThrow F hW (cls := "java/lang/IndexOutOfBoundsException") (by decide) q_80 q_81 (List.mem_of_getElem? (i := 9) rfl) (xa_0 F) xg_0 hl.1 dX5_escortOf_10 dX5_escortOf_13 dX5_escortOf_14 dX5_escortOf_16 dX5_escortOf_19 hout (Nat.le_of_ble_eq_true rfl) (Nat.le_of_ble_eq_true rfl) hc1 hs1 h.2.2 hc1 hs1
  | some a3 =>
    replace h := h.2 a3 rfl
    refine lv_ifnonnull (tgt := 20) hx hb dX5_escortOf_7 (by decide) ?_
    refine lv_aload_n hx hb dX5_escortOf_20 rfl (lv_at hl 0 rfl) ?_
    refine gn_5_4 F hW h.1 (List.mem_of_getElem? (i := 11) rfl) dX5_escortOf_21 ?_
    replace h := h.2
    obtain ⟨r4, er⟩ : ∃ z, z = mR u1 164 a3 := ⟨_, rfl⟩
    rw [← er]
    replace h := h r4 er
    clear er
    refine rStn (lv' := [(3, va_rf r4), (2, .ref a3), (0, .ref v0), (1, .int v1)]) F dX5_escortOf_24 rfl hl (by decide) rfl (fun ls hl9 => ?_)
    replace hl := hl9
    clear hl9
    refine rLdn F dX5_escortOf_25 rfl (lv_at hl 0 rfl) ?_
    cases r4 with
    | none =>
      replace h := h.1 rfl
      refine lv_ifnonnullN hx hb dX5_escortOf_26 ?_
      refine lv_iconst (v := (-1 : Int32)) hx hb dX5_escortOf_29 (by decide) ?_
      refine lv_goto (tgt := 37) hx hb dX5_escortOf_30 (by decide) ?_
      refine W.widen (k := MC) (n := MS) (Nat.le.intro hbc) (Nat.le.intro hbs) ?_
      exact vx_ret (retI F hr hW h dX5_escortOf_37)
    | some a5 =>
      replace h := h.2 a5 rfl
      refine lv_ifnonnull (tgt := 33) hx hb dX5_escortOf_26 (by decide) ?_
      refine lv_aload_n hx hb dX5_escortOf_33 rfl (lv_at hl 0 rfl) ?_
      refine gn_2_0 F hW h.1 (List.mem_of_getElem? (i := 3) rfl) dX5_escortOf_34 ?_
      replace h := h.2
      refine W.widen (k := MC) (n := MS) (Nat.le.intro hbc) (Nat.le.intro hbs) ?_
      exact vx_ret (retI F hr hW h dX5_escortOf_37)
set_option maxHeartbeats 4000000 in
set_option maxRecDepth 100000 in
theorem c_X5_dark {l : Launch} (hst : l.stackTraces = false) (G : Ctx) (v0 : Nat) (v1 : Int32) (MC MS : Nat) (u : Mem) (K : Int32 → Mem → Prop) (X : String → Mem → Prop) (h : w_X5_dark G v0 v1 MC MS u K X) : CtX l yX5_dark (.code yX5_dark cX5_dark 3 (some .int)) 6 100 MC MS G [.ref v0, .int v1] u K X := by
  refine entX (by first | decide | decide +kernel) hst (by first | decide | exact Nat.le_of_ble_eq_true rfl) (fun p e s m below meth c ls F hr hout hW hl => ?_)
  have F : Fx p l s m ([.ref v0, .int v1]).toArray meth c cX5_dark 3 RX5 G := F
  have hl : lv_has ls 3 [(0, .ref v0), (1, .int v1)] := hl
  have hx := F.1.1
  have hb := F.1.2.1
  have hbc : 0 + MC = MC := Nat.zero_add _
  have hbs : 0 + MS = MS := Nat.zero_add _
  unfold w_X5_dark at h
  refine lv_aload_n hx hb dX5_dark_0 rfl (lv_at hl 0 rfl) ?_
  refine lv_iload_n hx hb dX5_dark_1 rfl (lv_at hl 1 rfl) ?_
  obtain ⟨hob, h⟩ := h
  refine cQ (runV (n := 1) (As := [.int v1]) (rest := []) F hW (c_X5_findWalk F.2.2.2 G v0 v1 u _ h) hob (ci := 6) rfl q_253 q_254 q_255 q_2 q_256 rfl (by decide +kernel) ⟨Nat.le_of_ble_eq_true rfl, Nat.le_of_ble_eq_true rfl⟩ dX5_dark_2 rfl hl.1 (Nat.le_of_ble_eq_true rfl) ⟨Nat.le.intro hbc, Nat.le.intro hbs⟩) hW (fun r2 u1 h9 H locs hW => ?_)
  replace h := h9
  clear h9
  refine rStn (lv' := [(2, va_rf r2), (0, .ref v0), (1, .int v1)]) F dX5_dark_5 rfl hl (by decide) rfl (fun ls hl9 => ?_)
  replace hl := hl9
  clear hl9
  refine rLdn F dX5_dark_6 rfl (lv_at hl 0 rfl) ?_
  cases r2 with
  | none =>
    replace h := h.1 rfl
    refine lv_ifnonnullN hx hb dX5_dark_7 ?_
    have h1 := h.1
    have h6 := h.2.1
    have hc1 := bdf hbc h1
    have hs1 := bdf hbs h6
    exact rThrow F hW (cls := "java/lang/IndexOutOfBoundsException") (by decide) q_80 q_81 (List.mem_of_getElem? (i := 9) rfl) (xa_0 F) xg_0 hl.1 dX5_dark_10 dX5_dark_13 dX5_dark_14 dX5_dark_16 dX5_dark_19 hout (Nat.le_of_ble_eq_true rfl) (Nat.le_of_ble_eq_true rfl) hc1 hs1 h.2.2 hc1 hs1
  | some a3 =>
    replace h := h.2 a3 rfl
    refine lv_ifnonnull (tgt := 20) hx hb dX5_dark_7 (by decide) ?_
    refine lv_aload_n hx hb dX5_dark_20 rfl (lv_at hl 0 rfl) ?_
    refine gn_5_5 F hW h.1 (List.mem_of_getElem? (i := 12) rfl) dX5_dark_21 ?_
    replace h := h.2
    refine W.widen (k := MC) (n := MS) (Nat.le.intro hbc) (Nat.le.intro hbs) ?_
    exact vx_ret (retI F hr hW h dX5_dark_24)
set_option maxHeartbeats 4000000 in
set_option maxRecDepth 100000 in
theorem c_X5_pictures {l : Launch} (hst : l.stackTraces = false) (G : Ctx) (v0 : Nat) (u : Mem) (K : Int32 → Mem → Prop) (h : w_X5_pictures G v0 u K) : CtI l yX5_pictures (.code yX5_pictures cX5_pictures 1 (some .int)) 2 40 0 0 G [.ref v0] u K := by
  refine entM (by first | decide | decide +kernel) hst (by first | decide | exact Nat.le_of_ble_eq_true rfl) (fun p e s m below meth c ls F hr hnm hW hl => ?_)
  have F : Fx p l s m ([.ref v0]).toArray meth c cX5_pictures 1 RX5 G := F
  have hnm : meth.name = "pictures" := hnm
  have hl : lv_has ls 1 [(0, .ref v0)] := hl
  have hx := F.1.1
  have hb := F.1.2.1
  unfold w_X5_pictures at h
  refine lv_aload_n hx hb dX5_pictures_0 rfl (lv_at hl 0 rfl) ?_
  refine gf_6_3 F hW h.1 q_21 dX5_pictures_1 ?_
  replace h := h.2
  obtain ⟨r1, er⟩ : ∃ z, z = mR u 195 v0 := ⟨_, rfl⟩
  rw [← er]
  replace h := h r1 er
  clear er
  obtain ⟨a2, ea, h⟩ := h
  subst ea
  obtain ⟨hob, h⟩ := h
  refine cI (runV (n := 0) (As := []) (rest := []) F hW (c_X0_countKept F.2.2.2 G a2 u _ h) hob (ci := 1) rfl q_399 q_400 q_401 q_20 q_402 rfl (by decide +kernel) ⟨Nat.le_of_ble_eq_true rfl, Nat.le_of_ble_eq_true rfl⟩ dX5_pictures_4 rfl hl.1 (Nat.le_of_ble_eq_true rfl) ⟨Nat.zero_le _, Nat.zero_le _⟩) hW (fun r4 u3 h9 H locs hW => ?_)
  replace h := h9
  clear h9
  exact retI F hr hW h dX5_pictures_7
set_option maxHeartbeats 4000000 in
set_option maxRecDepth 100000 in
theorem c_X5_shows {l : Launch} (hst : l.stackTraces = false) (G : Ctx) (v0 : Nat) (v1 : Int32) (v2 : Int32) (v3 : Int32) (MC MS : Nat) (u : Mem) (K : Int32 → Mem → Prop) (X : String → Mem → Prop) (h : w_X5_shows G v0 v1 v2 v3 MC MS u K X) : CtX l yX5_shows (.code yX5_shows cX5_shows 4 (some .boolean)) 6 100 MC MS G [.ref v0, .int v1, .int v2, .int v3] u K X := by
  refine entX (by first | decide | decide +kernel) hst (by first | decide | exact Nat.le_of_ble_eq_true rfl) (fun p e s m below meth c ls F hr hout hW hl => ?_)
  have F : Fx p l s m ([.ref v0, .int v1, .int v2, .int v3]).toArray meth c cX5_shows 4 RX5 G := F
  have hl : lv_has ls 4 [(0, .ref v0), (1, .int v1), (2, .int v2), (3, .int v3)] := hl
  have hx := F.1.1
  have hb := F.1.2.1
  have hbc : 0 + MC = MC := Nat.zero_add _
  have hbs : 0 + MS = MS := Nat.zero_add _
  unfold w_X5_shows at h
  refine lv_iload_n hx hb dX5_shows_0 rfl (lv_at hl 1 rfl) ?_
  refine cI (runS (n := 1) (As := [.int v1]) (rest := []) F hW (c_X5_isStreet F.2.2.2 G v1 u _ h) q_89 q_90 q_2 q_91 (by decide +kernel) ⟨Nat.le_of_ble_eq_true rfl, Nat.le_of_ble_eq_true rfl⟩ dX5_shows_1 rfl hl.1 (Nat.le_of_ble_eq_true rfl) ⟨Nat.le.intro hbc, Nat.le.intro hbs⟩) hW (fun r2 u1 h9 H locs hW => ?_)
  replace h := h9
  clear h9
  refine lv_if_ne (tgt := 17) hx hb dX5_shows_4 (by decide) (fun hc3 => ?_) (fun hc3 => ?_)
  · have h := h.2 hc3
    refine lv_aload_n hx hb dX5_shows_17 rfl (lv_at hl 0 rfl) ?_
    refine lv_iload_n hx hb dX5_shows_18 rfl (lv_at hl 2 rfl) ?_
    obtain ⟨hob, h⟩ := h
    refine cQ (runV (n := 1) (As := [.int v2]) (rest := []) F hW (c_X5_findWalk F.2.2.2 G v0 v2 u1 _ h) hob (ci := 6) rfl q_253 q_254 q_255 q_2 q_256 rfl (by decide +kernel) ⟨Nat.le_of_ble_eq_true rfl, Nat.le_of_ble_eq_true rfl⟩ dX5_shows_19 rfl hl.1 (Nat.le_of_ble_eq_true rfl) ⟨Nat.le.intro hbc, Nat.le.intro hbs⟩) hW (fun r5 u4 h9 H locs hW => ?_)
    replace h := h9
    clear h9
    cases r5 with
    | none =>
      replace h := h.1 rfl
      refine lv_ifnonnullN hx hb dX5_shows_22 ?_
      have h1 := h.1
      have h6 := h.2.1
      have hc1 := bdf hbc h1
      have hs1 := bdf hbs h6
      exact rThrow F hW (cls := "java/lang/IndexOutOfBoundsException") (by decide) q_80 q_81 (List.mem_of_getElem? (i := 9) rfl) (xa_0 F) xg_0 hl.1 dX5_shows_25 dX5_shows_28 dX5_shows_29 dX5_shows_31 dX5_shows_34 hout (Nat.le_of_ble_eq_true rfl) (Nat.le_of_ble_eq_true rfl) hc1 hs1 h.2.2 hc1 hs1
    | some a6 =>
      replace h := h.2 a6 rfl
      refine lv_ifnonnull (tgt := 35) hx hb dX5_shows_22 (by decide) ?_
      refine lv_aload_n hx hb dX5_shows_35 rfl (lv_at hl 0 rfl) ?_
      refine gf_6_3 F hW h.1 q_21 dX5_shows_36 ?_
      replace h := h.2
      obtain ⟨r7, er⟩ : ∃ z, z = mR u4 195 v0 := ⟨_, rfl⟩
      rw [← er]
      replace h := h r7 er
      clear er
      refine lv_iload_n hx hb dX5_shows_39 rfl (lv_at hl 1 rfl) ?_
      refine lv_iload_n hx hb dX5_shows_40 rfl (lv_at hl 2 rfl) ?_
      refine lv_iload_n hx hb dX5_shows_41 rfl (lv_at hl 3 rfl) ?_
      obtain ⟨a8, ea, h⟩ := h
      subst ea
      obtain ⟨hob, h⟩ := h
      refine cI (runV (n := 3) (As := [.int v1, .int v2, .int v3]) (rest := []) F hW (c_X0_keeps F.2.2.2 G a8 v1 v2 v3 u4 _ h) hob (ci := 1) rfl q_407 q_307 q_308 q_20 q_309 rfl (by decide +kernel) ⟨Nat.le_of_ble_eq_true rfl, Nat.le_of_ble_eq_true rfl⟩ dX5_shows_42 rfl hl.1 (Nat.le_of_ble_eq_true rfl) ⟨Nat.le.intro hbc, Nat.le.intro hbs⟩) hW (fun r10 u9 h9 H locs hW => ?_)
      replace h := h9
      clear h9
      refine W.widen (k := MC) (n := MS) (Nat.le.intro hbc) (Nat.le.intro hbs) ?_
      exact vx_ret (retZ F hr hW h.1 h.2 dX5_shows_45)
  · have h := h.1 hc3
    have h1 := h.1
    have h6 := h.2.1
    have hc1 := bdf hbc h1
    have hs1 := bdf hbs h6
    exact rThrow F hW (cls := "java/lang/IndexOutOfBoundsException") (by decide) q_80 q_81 (List.mem_of_getElem? (i := 0) rfl) (xa_0 F) xg_0 hl.1 dX5_shows_7 dX5_shows_10 dX5_shows_11 dX5_shows_13 dX5_shows_16 hout (Nat.le_of_ble_eq_true rfl) (Nat.le_of_ble_eq_true rfl) hc1 hs1 h.2.2 hc1 hs1
set_option maxHeartbeats 4000000 in
set_option maxRecDepth 100000 in
theorem c_X5_showsByPapers {l : Launch} (hst : l.stackTraces = false) (G : Ctx) (v0 : Nat) (v1 : Int32) (v2 : Int32) (v3 : Int32) (MC MS : Nat) (u : Mem) (K : Int32 → Mem → Prop) (X : String → Mem → Prop) (h : w_X5_showsByPapers G v0 v1 v2 v3 MC MS u K X) : CtX l yX5_showsByPapers (.code yX5_showsByPapers cX5_showsByPapers 4 (some .boolean)) 6 100 MC MS G [.ref v0, .int v1, .int v2, .int v3] u K X := by
  refine entX (by first | decide | decide +kernel) hst (by first | decide | exact Nat.le_of_ble_eq_true rfl) (fun p e s m below meth c ls F hr hout hW hl => ?_)
  have F : Fx p l s m ([.ref v0, .int v1, .int v2, .int v3]).toArray meth c cX5_showsByPapers 4 RX5 G := F
  have hl : lv_has ls 4 [(0, .ref v0), (1, .int v1), (2, .int v2), (3, .int v3)] := hl
  have hx := F.1.1
  have hb := F.1.2.1
  have hbc : 0 + MC = MC := Nat.zero_add _
  have hbs : 0 + MS = MS := Nat.zero_add _
  unfold w_X5_showsByPapers at h
  refine lv_iload_n hx hb dX5_showsByPapers_0 rfl (lv_at hl 1 rfl) ?_
  refine cI (runS (n := 1) (As := [.int v1]) (rest := []) F hW (c_X5_isStreet F.2.2.2 G v1 u _ h) q_89 q_90 q_2 q_91 (by decide +kernel) ⟨Nat.le_of_ble_eq_true rfl, Nat.le_of_ble_eq_true rfl⟩ dX5_showsByPapers_1 rfl hl.1 (Nat.le_of_ble_eq_true rfl) ⟨Nat.le.intro hbc, Nat.le.intro hbs⟩) hW (fun r2 u1 h9 H locs hW => ?_)
  replace h := h9
  clear h9
  refine lv_if_ne (tgt := 17) hx hb dX5_showsByPapers_4 (by decide) (fun hc3 => ?_) (fun hc3 => ?_)
  · have h := h.2 hc3
    refine lv_aload_n hx hb dX5_showsByPapers_17 rfl (lv_at hl 0 rfl) ?_
    refine lv_iload_n hx hb dX5_showsByPapers_18 rfl (lv_at hl 2 rfl) ?_
    obtain ⟨hob, h⟩ := h
    refine cQ (runV (n := 1) (As := [.int v2]) (rest := []) F hW (c_X5_findWalk F.2.2.2 G v0 v2 u1 _ h) hob (ci := 6) rfl q_253 q_254 q_255 q_2 q_256 rfl (by decide +kernel) ⟨Nat.le_of_ble_eq_true rfl, Nat.le_of_ble_eq_true rfl⟩ dX5_showsByPapers_19 rfl hl.1 (Nat.le_of_ble_eq_true rfl) ⟨Nat.le.intro hbc, Nat.le.intro hbs⟩) hW (fun r5 u4 h9 H locs hW => ?_)
    replace h := h9
    clear h9
    cases r5 with
    | none =>
      replace h := h.1 rfl
      refine lv_ifnonnullN hx hb dX5_showsByPapers_22 ?_
      have h1 := h.1
      have h6 := h.2.1
      have hc1 := bdf hbc h1
      have hs1 := bdf hbs h6
      exact rThrow F hW (cls := "java/lang/IndexOutOfBoundsException") (by decide) q_80 q_81 (List.mem_of_getElem? (i := 9) rfl) (xa_0 F) xg_0 hl.1 dX5_showsByPapers_25 dX5_showsByPapers_28 dX5_showsByPapers_29 dX5_showsByPapers_31 dX5_showsByPapers_34 hout (Nat.le_of_ble_eq_true rfl) (Nat.le_of_ble_eq_true rfl) hc1 hs1 h.2.2 hc1 hs1
    | some a6 =>
      replace h := h.2 a6 rfl
      refine lv_ifnonnull (tgt := 35) hx hb dX5_showsByPapers_22 (by decide) ?_
      refine lv_aload_n hx hb dX5_showsByPapers_35 rfl (lv_at hl 0 rfl) ?_
      refine gf_6_3 F hW h.1 q_21 dX5_showsByPapers_36 ?_
      replace h := h.2
      obtain ⟨r7, er⟩ : ∃ z, z = mR u4 195 v0 := ⟨_, rfl⟩
      rw [← er]
      replace h := h r7 er
      clear er
      refine lv_iload_n hx hb dX5_showsByPapers_39 rfl (lv_at hl 1 rfl) ?_
      refine lv_iload_n hx hb dX5_showsByPapers_40 rfl (lv_at hl 2 rfl) ?_
      refine lv_iload_n hx hb dX5_showsByPapers_41 rfl (lv_at hl 3 rfl) ?_
      refine lv_aload_n hx hb dX5_showsByPapers_42 rfl (lv_at hl 0 rfl) ?_
      refine gf_6_4 F hW h.1 q_22 dX5_showsByPapers_43 ?_
      replace h := h.2
      obtain ⟨a8, ea, h⟩ := h
      subst ea
      obtain ⟨hob, h⟩ := h
      refine cI (runV (n := 4) (As := [.int v1, .int v2, .int v3, .int (mI u4 196 v0)]) (rest := []) F hW (c_X0_papersTell F.2.2.2 G a8 v1 v2 v3 (mI u4 196 v0) u4 _ h) hob (ci := 1) rfl q_412 q_413 q_414 q_20 q_415 rfl (by decide +kernel) ⟨Nat.le_of_ble_eq_true rfl, Nat.le_of_ble_eq_true rfl⟩ dX5_showsByPapers_46 rfl hl.1 (Nat.le_of_ble_eq_true rfl) ⟨Nat.le.intro hbc, Nat.le.intro hbs⟩) hW (fun r10 u9 h9 H locs hW => ?_)
      replace h := h9
      clear h9
      refine W.widen (k := MC) (n := MS) (Nat.le.intro hbc) (Nat.le.intro hbs) ?_
      exact vx_ret (retZ F hr hW h.1 h.2 dX5_showsByPapers_49)
  · have h := h.1 hc3
    have h1 := h.1
    have h6 := h.2.1
    have hc1 := bdf hbc h1
    have hs1 := bdf hbs h6
    exact rThrow F hW (cls := "java/lang/IndexOutOfBoundsException") (by decide) q_80 q_81 (List.mem_of_getElem? (i := 0) rfl) (xa_0 F) xg_0 hl.1 dX5_showsByPapers_7 dX5_showsByPapers_10 dX5_showsByPapers_11 dX5_showsByPapers_13 dX5_showsByPapers_16 hout (Nat.le_of_ble_eq_true rfl) (Nat.le_of_ble_eq_true rfl) hc1 hs1 h.2.2 hc1 hs1
set_option maxHeartbeats 4000000 in
set_option maxRecDepth 100000 in
theorem t_X5_pay_32 {p : Program} {l : Launch} {e : Env} {s : State} {m : MethodId} {below : List Frame} {meth : Method} {c : Code} {G : Ctx} (v0 : Nat) (v1 : Int32) (v2 : Int32) (MC MS : Nat) (F : Fx p l s m ([.ref v0, .int v1, .int v2]).toArray meth c cX5_pay 4 RX5 G) (hr : meth.sig.returnType = (some .int)) (hout : ∀ x ∈ c.exceptionTable.toList, False) (K : Int32 → Mem → Prop) (X : String → Mem → Prop) : ∀ (mc ms : Nat) (u : Mem) (H : Heap) (locs : List Loc) (cells slots : Nat) (ls : Array Slot), w_X5_pay_32 G v0 v1 v2 K X mc ms u → Wd G u s H locs → lv_has ls 4 [(0, .ref v0), (1, .int v1), (2, .int v2)] → cells + mc = MC → slots + ms = MS → W p l e { frames := 6, cells := MC, slots := MS, locals := 100 } s m ([.ref v0, .int v1, .int v2]).toArray below meth c H locs cells slots (vx_MQ below (va_Qi K (fun u' t => Wp G u' t.heap) (Ab G)) (XCt G X) ([.ref v0, .int v1, .int v2]).toArray s MC MS (Ab G)) (F0 m 32 ls []) := by
  have hx := F.1.1
  have hb := F.1.2.1
  intro mc ms u H locs cells slots ls h hW hl hbc hbs
  unfold w_X5_pay_32 at h
  have h1 := h.1
  have h6 := h.2.1
  have hc1 := bdf hbc h1
  have hs1 := bdf hbs h6
  exact rThrow F hW (cls := "java/lang/IllegalArgumentException") (by decide) q_82 q_83 (List.mem_of_getElem? (i := 12) rfl) (xa_1 F) xg_1 hl.1 dX5_pay_32 dX5_pay_35 dX5_pay_36 dX5_pay_38 dX5_pay_41 hout (Nat.le_of_ble_eq_true rfl) (Nat.le_of_ble_eq_true rfl) hc1 hs1 h.2.2 hc1 hs1
set_option maxHeartbeats 4000000 in
set_option maxRecDepth 100000 in
theorem c_X5_pay {l : Launch} (hst : l.stackTraces = false) (G : Ctx) (v0 : Nat) (v1 : Int32) (v2 : Int32) (MC MS : Nat) (u : Mem) (K : Int32 → Mem → Prop) (X : String → Mem → Prop) (h : w_X5_pay G v0 v1 v2 MC MS u K X) : CtX l yX5_pay (.code yX5_pay cX5_pay 4 (some .int)) 6 100 MC MS G [.ref v0, .int v1, .int v2] u K X := by
  refine entX (by first | decide | decide +kernel) hst (by first | decide | exact Nat.le_of_ble_eq_true rfl) (fun p e s m below meth c ls F hr hout hW hl => ?_)
  have F : Fx p l s m ([.ref v0, .int v1, .int v2]).toArray meth c cX5_pay 4 RX5 G := F
  have hl : lv_has ls 4 [(0, .ref v0), (1, .int v1), (2, .int v2)] := hl
  have hx := F.1.1
  have hb := F.1.2.1
  have hbc : 0 + MC = MC := Nat.zero_add _
  have hbs : 0 + MS = MS := Nat.zero_add _
  unfold w_X5_pay at h
  refine lv_aload_n hx hb dX5_pay_0 rfl (lv_at hl 0 rfl) ?_
  refine lv_iload_n hx hb dX5_pay_1 rfl (lv_at hl 1 rfl) ?_
  obtain ⟨hob, h⟩ := h
  refine cQ (runV (n := 1) (As := [.int v1]) (rest := []) F hW (c_X5_findStreet F.2.2.2 G v0 v1 u _ h) hob (ci := 6) rfl q_169 q_170 q_171 q_2 q_172 rfl (by decide +kernel) ⟨Nat.le_of_ble_eq_true rfl, Nat.le_of_ble_eq_true rfl⟩ dX5_pay_2 rfl hl.1 (Nat.le_of_ble_eq_true rfl) ⟨Nat.le.intro hbc, Nat.le.intro hbs⟩) hW (fun r2 u1 h9 H locs hW => ?_)
  replace h := h9
  clear h9
  refine rStn (lv' := [(3, va_rf r2), (0, .ref v0), (1, .int v1), (2, .int v2)]) F dX5_pay_5 rfl hl (by decide) rfl (fun ls hl9 => ?_)
  replace hl := hl9
  clear hl9
  refine rLdn F dX5_pay_6 rfl (lv_at hl 0 rfl) ?_
  cases r2 with
  | none =>
    replace h := h.1 rfl
    refine lv_ifnonnullN hx hb dX5_pay_7 ?_
    have h1 := h.1
    have h6 := h.2.1
    have hc1 := bdf hbc h1
    have hs1 := bdf hbs h6
    exact rThrow F hW (cls := "java/lang/IndexOutOfBoundsException") (by decide) q_80 q_81 (List.mem_of_getElem? (i := 0) rfl) (xa_0 F) xg_0 hl.1 dX5_pay_10 dX5_pay_13 dX5_pay_14 dX5_pay_16 dX5_pay_19 hout (Nat.le_of_ble_eq_true rfl) (Nat.le_of_ble_eq_true rfl) hc1 hs1 h.2.2 hc1 hs1
  | some a3 =>
    replace h := h.2 a3 rfl
    refine lv_ifnonnull (tgt := 20) hx hb dX5_pay_7 (by decide) ?_
    refine lv_iload_n hx hb dX5_pay_20 rfl (lv_at hl 3 rfl) ?_
    refine lv_iconst (v := (1 : Int32)) hx hb dX5_pay_21 (by decide) ?_
    refine lv_icmp_lt (tgt := 32) hx hb dX5_pay_22 (by decide) (fun hc4 => ?_) (fun hc4 => ?_)
    · have h := h.1 hc4
      exact t_X5_pay_32 v0 v1 v2 MC MS F hr hout K X MC MS u1 _ _ _ _ _ h hW (lv_sub hl [1, 2, 3] rfl) hbc hbs
    · have h := h.2 hc4
      refine lv_iload_n hx hb dX5_pay_25 rfl (lv_at hl 3 rfl) ?_
      refine lv_sipush (v := (10000 : Int32)) hx hb dX5_pay_26 (by decide) ?_
      refine lv_icmp_le (tgt := 42) hx hb dX5_pay_29 (by decide) (fun hc5 => ?_) (fun hc5 => ?_)
      · have h := h.1 hc5
        refine lv_aload_n hx hb dX5_pay_42 rfl (lv_at hl 0 rfl) ?_
        refine gn_4_0 F hW h.1 (List.mem_of_getElem? (i := 0) rfl) dX5_pay_43 ?_
        replace h := h.2
        refine lv_ldc hx hb F.1.2.2.2.1 (F.1.2.2.2.2 _ q_168) dX5_pay_46 ?_
        refine lv_iload_n hx hb dX5_pay_48 rfl (lv_at hl 3 rfl) ?_
        refine lv_isub hx hb dX5_pay_49 ?_
        refine lv_icmp_le (tgt := 63) hx hb dX5_pay_50 (by decide) (fun hc6 => ?_) (fun hc6 => ?_)
        · have h := h.1 hc6
          refine lv_aload_n hx hb dX5_pay_63 rfl (lv_at hl 0 rfl) ?_
          refine lv_dup hx hb dX5_pay_64 rfl ?_
          refine gn_4_0 F hW h.1 (List.mem_of_getElem? (i := 0) rfl) dX5_pay_65 ?_
          replace h := h.2
          refine lv_iload_n hx hb dX5_pay_68 rfl (lv_at hl 3 rfl) ?_
          refine lv_iadd hx hb dX5_pay_69 ?_
          refine pn_4_0 F hW (x := ((mI u1 128 a3) + v2)) h.1 (List.mem_of_getElem? (i := 0) rfl) dX5_pay_70 (fun H locs hW => ?_)
          replace h := h.2
          obtain ⟨u7, eu⟩ : ∃ z, z = setI u1 128 a3 ((mI u1 128 a3) + v2) := ⟨_, rfl⟩
          rw [← eu] at hW
          replace h := h u7 eu
          clear eu
          refine lv_aload_n hx hb dX5_pay_73 rfl (lv_at hl 0 rfl) ?_
          refine gn_4_0 F hW h.1 (List.mem_of_getElem? (i := 0) rfl) dX5_pay_74 ?_
          replace h := h.2
          refine W.widen (k := MC) (n := MS) (Nat.le.intro hbc) (Nat.le.intro hbs) ?_
          exact vx_ret (retI F hr hW h dX5_pay_77)
        · have h := h.2 hc6
          have h1 := h.1
          have h6 := h.2.1
          have hc1 := bdf hbc h1
          have hs1 := bdf hbs h6
          exact rThrow F hW (cls := "java/lang/IllegalStateException") (by decide) q_84 q_85 (List.mem_of_getElem? (i := 13) rfl) (xa_2 F) xg_2 hl.1 dX5_pay_53 dX5_pay_56 dX5_pay_57 dX5_pay_59 dX5_pay_62 hout (Nat.le_of_ble_eq_true rfl) (Nat.le_of_ble_eq_true rfl) hc1 hs1 h.2.2 hc1 hs1
      · have h := h.2 hc5
        exact t_X5_pay_32 v0 v1 v2 MC MS F hr hout K X MC MS u1 _ _ _ _ _ h hW (lv_sub hl [1, 2, 3] rfl) hbc hbs
set_option maxHeartbeats 4000000 in
set_option maxRecDepth 100000 in
theorem t_X5_setStreet_32 {p : Program} {l : Launch} {e : Env} {s : State} {m : MethodId} {below : List Frame} {meth : Method} {c : Code} {G : Ctx} (v0 : Nat) (v1 : Int32) (v2 : Int32) (v3 : Int32) (MC MS : Nat) (F : Fx p l s m ([.ref v0, .int v1, .int v2, .int v3]).toArray meth c cX5_setStreet 6 RX5 G) (hr : meth.sig.returnType = (some .int)) (hout : ∀ x ∈ c.exceptionTable.toList, False) (K : Int32 → Mem → Prop) (X : String → Mem → Prop) : ∀ (mc ms : Nat) (u : Mem) (H : Heap) (locs : List Loc) (cells slots : Nat) (ls : Array Slot), w_X5_setStreet_32 G v0 v1 v2 v3 K X mc ms u → Wd G u s H locs → lv_has ls 6 [(0, .ref v0), (1, .int v1), (2, .int v2), (3, .int v3)] → cells + mc = MC → slots + ms = MS → W p l e { frames := 6, cells := MC, slots := MS, locals := 100 } s m ([.ref v0, .int v1, .int v2, .int v3]).toArray below meth c H locs cells slots (vx_MQ below (va_Qi K (fun u' t => Wp G u' t.heap) (Ab G)) (XCt G X) ([.ref v0, .int v1, .int v2, .int v3]).toArray s MC MS (Ab G)) (F0 m 32 ls []) := by
  have hx := F.1.1
  have hb := F.1.2.1
  intro mc ms u H locs cells slots ls h hW hl hbc hbs
  unfold w_X5_setStreet_32 at h
  have h1 := h.1
  have h6 := h.2.1
  have hc1 := bdf hbc h1
  have hs1 := bdf hbs h6
  exact rThrow F hW (cls := "java/lang/IllegalArgumentException") (by decide) q_82 q_83 (List.mem_of_getElem? (i := 14) rfl) (xa_1 F) xg_1 hl.1 dX5_setStreet_32 dX5_setStreet_35 dX5_setStreet_36 dX5_setStreet_38 dX5_setStreet_41 hout (Nat.le_of_ble_eq_true rfl) (Nat.le_of_ble_eq_true rfl) hc1 hs1 h.2.2 hc1 hs1
set_option maxHeartbeats 4000000 in
set_option maxRecDepth 100000 in
theorem c_X5_setStreet {l : Launch} (hst : l.stackTraces = false) (G : Ctx) (v0 : Nat) (v1 : Int32) (v2 : Int32) (v3 : Int32) (MC MS : Nat) (u : Mem) (K : Int32 → Mem → Prop) (X : String → Mem → Prop) (h : w_X5_setStreet G v0 v1 v2 v3 MC MS u K X) : CtX l yX5_setStreet (.code yX5_setStreet cX5_setStreet 6 (some .int)) 6 100 MC MS G [.ref v0, .int v1, .int v2, .int v3] u K X := by
  refine entX (by first | decide | decide +kernel) hst (by first | decide | exact Nat.le_of_ble_eq_true rfl) (fun p e s m below meth c ls F hr hout hW hl => ?_)
  have F : Fx p l s m ([.ref v0, .int v1, .int v2, .int v3]).toArray meth c cX5_setStreet 6 RX5 G := F
  have hl : lv_has ls 6 [(0, .ref v0), (1, .int v1), (2, .int v2), (3, .int v3)] := hl
  have hx := F.1.1
  have hb := F.1.2.1
  have hbc : 0 + MC = MC := Nat.zero_add _
  have hbs : 0 + MS = MS := Nat.zero_add _
  unfold w_X5_setStreet at h
  refine lv_aload_n hx hb dX5_setStreet_0 rfl (lv_at hl 0 rfl) ?_
  refine lv_iload_n hx hb dX5_setStreet_1 rfl (lv_at hl 1 rfl) ?_
  obtain ⟨hob, h⟩ := h
  refine cQ (runV (n := 1) (As := [.int v1]) (rest := []) F hW (c_X5_findStreet F.2.2.2 G v0 v1 u _ h) hob (ci := 6) rfl q_169 q_170 q_171 q_2 q_172 rfl (by decide +kernel) ⟨Nat.le_of_ble_eq_true rfl, Nat.le_of_ble_eq_true rfl⟩ dX5_setStreet_2 rfl hl.1 (Nat.le_of_ble_eq_true rfl) ⟨Nat.le.intro hbc, Nat.le.intro hbs⟩) hW (fun r2 u1 h9 H locs hW => ?_)
  replace h := h9
  clear h9
  refine rSt (lv' := [(4, va_rf r2), (0, .ref v0), (1, .int v1), (2, .int v2), (3, .int v3)]) F dX5_setStreet_5 hl (by decide) rfl (fun ls hl9 => ?_)
  replace hl := hl9
  clear hl9
  refine rLd F dX5_setStreet_7 (lv_at hl 0 rfl) ?_
  cases r2 with
  | none =>
    replace h := h.1 rfl
    refine lv_ifnonnullN hx hb dX5_setStreet_9 ?_
    have h1 := h.1
    have h6 := h.2.1
    have hc1 := bdf hbc h1
    have hs1 := bdf hbs h6
    exact rThrow F hW (cls := "java/lang/IndexOutOfBoundsException") (by decide) q_80 q_81 (List.mem_of_getElem? (i := 0) rfl) (xa_0 F) xg_0 hl.1 dX5_setStreet_12 dX5_setStreet_15 dX5_setStreet_16 dX5_setStreet_18 dX5_setStreet_21 hout (Nat.le_of_ble_eq_true rfl) (Nat.le_of_ble_eq_true rfl) hc1 hs1 h.2.2 hc1 hs1
  | some a3 =>
    replace h := h.2 a3 rfl
    refine lv_ifnonnull (tgt := 22) hx hb dX5_setStreet_9 (by decide) ?_
    refine lv_iload_n hx hb dX5_setStreet_22 rfl (lv_at hl 3 rfl) ?_
    refine lv_if_lt (tgt := 32) hx hb dX5_setStreet_23 (by decide) (fun hc4 => ?_) (fun hc4 => ?_)
    · have h := h.1 hc4
      exact t_X5_setStreet_32 v0 v1 v2 v3 MC MS F hr hout K X MC MS u1 _ _ _ _ _ h hW (lv_sub hl [1, 2, 3, 4] rfl) hbc hbs
    · have h := h.2 hc4
      refine lv_iload_n hx hb dX5_setStreet_26 rfl (lv_at hl 3 rfl) ?_
      refine lv_bipush (v := (50 : Int32)) hx hb dX5_setStreet_27 (by decide) ?_
      refine lv_icmp_le (tgt := 42) hx hb dX5_setStreet_29 (by decide) (fun hc5 => ?_) (fun hc5 => ?_)
      · have h := h.1 hc5
        refine lv_aload hx hb dX5_setStreet_42 (lv_at hl 0 rfl) ?_
        refine gn_4_1 F hW h.1 (List.mem_of_getElem? (i := 1) rfl) dX5_setStreet_44 ?_
        replace h := h.2
        refine lv_istore (lv' := [(5, .int (mI u1 129 a3)), (4, .ref a3), (0, .ref v0), (1, .int v1), (2, .int v2), (3, .int v3)]) hx hb dX5_setStreet_47 hl (by decide) rfl (fun ls hl9 => ?_)
        replace hl := hl9
        clear hl9
        refine lv_aload hx hb dX5_setStreet_49 (lv_at hl 1 rfl) ?_
        refine lv_iload_n hx hb dX5_setStreet_51 rfl (lv_at hl 4 rfl) ?_
        refine pn_4_1 F hW (x := v2) h.1 (List.mem_of_getElem? (i := 1) rfl) dX5_setStreet_52 (fun H locs hW => ?_)
        replace h := h.2
        obtain ⟨u6, eu⟩ : ∃ z, z = setI u1 129 a3 v2 := ⟨_, rfl⟩
        rw [← eu] at hW
        replace h := h u6 eu
        clear eu
        refine lv_aload hx hb dX5_setStreet_55 (lv_at hl 1 rfl) ?_
        refine lv_iload_n hx hb dX5_setStreet_57 rfl (lv_at hl 5 rfl) ?_
        refine pn_4_2 F hW (x := v3) h.1 (List.mem_of_getElem? (i := 2) rfl) h.2.1 dX5_setStreet_58 (fun H locs hW => ?_)
        replace h := h.2.2
        obtain ⟨u7, eu⟩ : ∃ z, z = setI u6 130 a3 v3 := ⟨_, rfl⟩
        rw [← eu] at hW
        replace h := h u7 eu
        clear eu
        refine lv_iload hx hb dX5_setStreet_61 (lv_at hl 0 rfl) ?_
        refine W.widen (k := MC) (n := MS) (Nat.le.intro hbc) (Nat.le.intro hbs) ?_
        exact vx_ret (retI F hr hW h dX5_setStreet_63)
      · have h := h.2 hc5
        exact t_X5_setStreet_32 v0 v1 v2 v3 MC MS F hr hout K X MC MS u1 _ _ _ _ _ h hW (lv_sub hl [1, 2, 3, 4] rfl) hbc hbs
set_option maxHeartbeats 4000000 in
set_option maxRecDepth 100000 in
theorem t_X5_vote_31 {p : Program} {l : Launch} {e : Env} {s : State} {m : MethodId} {below : List Frame} {meth : Method} {c : Code} {G : Ctx} (v0 : Nat) (v1 : Int32) (v2 : Int32) (v3 : Int32) (MC MS : Nat) (F : Fx p l s m ([.ref v0, .int v1, .int v2, .int v3]).toArray meth c cX5_vote 5 RX5 G) (hr : meth.sig.returnType = (some .int)) (hout : ∀ x ∈ c.exceptionTable.toList, False) (K : Int32 → Mem → Prop) (X : String → Mem → Prop) : ∀ (mc ms : Nat) (u : Mem) (H : Heap) (locs : List Loc) (cells slots : Nat) (ls : Array Slot), w_X5_vote_31 G v0 v1 v2 v3 K X mc ms u → Wd G u s H locs → lv_has ls 5 [(0, .ref v0), (1, .int v1), (2, .int v2), (3, .int v3)] → cells + mc = MC → slots + ms = MS → W p l e { frames := 6, cells := MC, slots := MS, locals := 100 } s m ([.ref v0, .int v1, .int v2, .int v3]).toArray below meth c H locs cells slots (vx_MQ below (va_Qi K (fun u' t => Wp G u' t.heap) (Ab G)) (XCt G X) ([.ref v0, .int v1, .int v2, .int v3]).toArray s MC MS (Ab G)) (F0 m 31 ls []) := by
  have hx := F.1.1
  have hb := F.1.2.1
  intro mc ms u H locs cells slots ls h hW hl hbc hbs
  unfold w_X5_vote_31 at h
  have h1 := h.1
  have h6 := h.2.1
  have hc1 := bdf hbc h1
  have hs1 := bdf hbs h6
  exact rThrow F hW (cls := "java/lang/IndexOutOfBoundsException") (by decide) q_80 q_81 (List.mem_of_getElem? (i := 15) rfl) (xa_0 F) xg_0 hl.1 dX5_vote_31 dX5_vote_34 dX5_vote_35 dX5_vote_37 dX5_vote_40 hout (Nat.le_of_ble_eq_true rfl) (Nat.le_of_ble_eq_true rfl) hc1 hs1 h.2.2 hc1 hs1
set_option maxHeartbeats 4000000 in
set_option maxRecDepth 100000 in
theorem t_X5_vote_52 {p : Program} {l : Launch} {e : Env} {s : State} {m : MethodId} {below : List Frame} {meth : Method} {c : Code} {G : Ctx} (v0 : Nat) (v1 : Int32) (v2 : Int32) (v3 : Int32) (MC MS : Nat) (F : Fx p l s m ([.ref v0, .int v1, .int v2, .int v3]).toArray meth c cX5_vote 5 RX5 G) (hr : meth.sig.returnType = (some .int)) (hout : ∀ x ∈ c.exceptionTable.toList, False) (K : Int32 → Mem → Prop) (X : String → Mem → Prop) : ∀ (mc ms : Nat) (u : Mem) (H : Heap) (locs : List Loc) (cells slots : Nat) (ls : Array Slot), w_X5_vote_52 G v0 v1 v2 v3 K X mc ms u → Wd G u s H locs → lv_has ls 5 [(0, .ref v0), (1, .int v1), (2, .int v2), (3, .int v3)] → cells + mc = MC → slots + ms = MS → W p l e { frames := 6, cells := MC, slots := MS, locals := 100 } s m ([.ref v0, .int v1, .int v2, .int v3]).toArray below meth c H locs cells slots (vx_MQ below (va_Qi K (fun u' t => Wp G u' t.heap) (Ab G)) (XCt G X) ([.ref v0, .int v1, .int v2, .int v3]).toArray s MC MS (Ab G)) (F0 m 52 ls []) := by
  have hx := F.1.1
  have hb := F.1.2.1
  intro mc ms u H locs cells slots ls h hW hl hbc hbs
  unfold w_X5_vote_52 at h
  have h1 := h.1
  have h6 := h.2.1
  have hc1 := bdf hbc h1
  have hs1 := bdf hbs h6
  exact rThrow F hW (cls := "java/lang/IllegalArgumentException") (by decide) q_82 q_83 (List.mem_of_getElem? (i := 16) rfl) (xa_1 F) xg_1 hl.1 dX5_vote_52 dX5_vote_55 dX5_vote_56 dX5_vote_58 dX5_vote_61 hout (Nat.le_of_ble_eq_true rfl) (Nat.le_of_ble_eq_true rfl) hc1 hs1 h.2.2 hc1 hs1
set_option maxHeartbeats 4000000 in
set_option maxRecDepth 100000 in
theorem c_X5_vote {l : Launch} (hst : l.stackTraces = false) (G : Ctx) (v0 : Nat) (v1 : Int32) (v2 : Int32) (v3 : Int32) (MC MS : Nat) (u : Mem) (K : Int32 → Mem → Prop) (X : String → Mem → Prop) (h : w_X5_vote G v0 v1 v2 v3 MC MS u K X) : CtX l yX5_vote (.code yX5_vote cX5_vote 5 (some .int)) 6 100 MC MS G [.ref v0, .int v1, .int v2, .int v3] u K X := by
  refine entX (by first | decide | decide +kernel) hst (by first | decide | exact Nat.le_of_ble_eq_true rfl) (fun p e s m below meth c ls F hr hout hW hl => ?_)
  have F : Fx p l s m ([.ref v0, .int v1, .int v2, .int v3]).toArray meth c cX5_vote 5 RX5 G := F
  have hl : lv_has ls 5 [(0, .ref v0), (1, .int v1), (2, .int v2), (3, .int v3)] := hl
  have hx := F.1.1
  have hb := F.1.2.1
  have hbc : 0 + MC = MC := Nat.zero_add _
  have hbs : 0 + MS = MS := Nat.zero_add _
  unfold w_X5_vote at h
  refine lv_aload_n hx hb dX5_vote_0 rfl (lv_at hl 0 rfl) ?_
  refine lv_iload_n hx hb dX5_vote_1 rfl (lv_at hl 1 rfl) ?_
  obtain ⟨hob, h⟩ := h
  refine cQ (runV (n := 1) (As := [.int v1]) (rest := []) F hW (c_X5_findStreet F.2.2.2 G v0 v1 u _ h) hob (ci := 6) rfl q_169 q_170 q_171 q_2 q_172 rfl (by decide +kernel) ⟨Nat.le_of_ble_eq_true rfl, Nat.le_of_ble_eq_true rfl⟩ dX5_vote_2 rfl hl.1 (Nat.le_of_ble_eq_true rfl) ⟨Nat.le.intro hbc, Nat.le.intro hbs⟩) hW (fun r2 u1 h9 H locs hW => ?_)
  replace h := h9
  clear h9
  refine rSt (lv' := [(4, va_rf r2), (0, .ref v0), (1, .int v1), (2, .int v2), (3, .int v3)]) F dX5_vote_5 hl (by decide) rfl (fun ls hl9 => ?_)
  replace hl := hl9
  clear hl9
  refine rLd F dX5_vote_7 (lv_at hl 0 rfl) ?_
  cases r2 with
  | none =>
    replace h := h.1 rfl
    refine lv_ifnonnullN hx hb dX5_vote_9 ?_
    have h1 := h.1
    have h6 := h.2.1
    have hc1 := bdf hbc h1
    have hs1 := bdf hbs h6
    exact rThrow F hW (cls := "java/lang/IndexOutOfBoundsException") (by decide) q_80 q_81 (List.mem_of_getElem? (i := 0) rfl) (xa_0 F) xg_0 hl.1 dX5_vote_12 dX5_vote_15 dX5_vote_16 dX5_vote_18 dX5_vote_21 hout (Nat.le_of_ble_eq_true rfl) (Nat.le_of_ble_eq_true rfl) hc1 hs1 h.2.2 hc1 hs1
  | some a3 =>
    replace h := h.2 a3 rfl
    refine lv_ifnonnull (tgt := 22) hx hb dX5_vote_9 (by decide) ?_
    refine lv_iload_n hx hb dX5_vote_22 rfl (lv_at hl 3 rfl) ?_
    refine lv_if_lt (tgt := 31) hx hb dX5_vote_23 (by decide) (fun hc4 => ?_) (fun hc4 => ?_)
    · have h := h.1 hc4
      exact t_X5_vote_31 v0 v1 v2 v3 MC MS F hr hout K X MC MS u1 _ _ _ _ _ h hW (lv_sub hl [1, 2, 3, 4] rfl) hbc hbs
    · have h := h.2 hc4
      refine lv_iload_n hx hb dX5_vote_26 rfl (lv_at hl 3 rfl) ?_
      refine lv_iconst (v := (3 : Int32)) hx hb dX5_vote_27 (by decide) ?_
      refine lv_icmp_lt (tgt := 41) hx hb dX5_vote_28 (by decide) (fun hc5 => ?_) (fun hc5 => ?_)
      · have h := h.1 hc5
        refine lv_iload_n hx hb dX5_vote_41 rfl (lv_at hl 4 rfl) ?_
        refine lv_iconst (v := (1 : Int32)) hx hb dX5_vote_42 (by decide) ?_
        refine lv_icmp_lt (tgt := 52) hx hb dX5_vote_43 (by decide) (fun hc6 => ?_) (fun hc6 => ?_)
        · have h := h.1 hc6
          exact t_X5_vote_52 v0 v1 v2 v3 MC MS F hr hout K X MC MS u1 _ _ _ _ _ h hW (lv_sub hl [1, 2, 3, 4] rfl) hbc hbs
        · have h := h.2 hc6
          refine lv_iload_n hx hb dX5_vote_46 rfl (lv_at hl 4 rfl) ?_
          refine lv_bipush (v := (30 : Int32)) hx hb dX5_vote_47 (by decide) ?_
          refine lv_icmp_le (tgt := 62) hx hb dX5_vote_49 (by decide) (fun hc7 => ?_) (fun hc7 => ?_)
          · have h := h.1 hc7
            refine lv_aload hx hb dX5_vote_62 (lv_at hl 0 rfl) ?_
            refine lv_iload_n hx hb dX5_vote_64 rfl (lv_at hl 3 rfl) ?_
            refine lv_iload_n hx hb dX5_vote_65 rfl (lv_at hl 4 rfl) ?_
            obtain ⟨hob, h⟩ := h
            refine cV (runV (n := 2) (As := [.int v2, .int v3]) (rest := []) F hW (c_X3_setVote F.2.2.2 G a3 v2 v3 u1 _ h) hob (ci := 4) rfl q_181 q_182 q_183 q_25 q_184 rfl (by decide +kernel) ⟨Nat.le_of_ble_eq_true rfl, Nat.le_of_ble_eq_true rfl⟩ dX5_vote_66 rfl hl.1 (Nat.le_of_ble_eq_true rfl) ⟨Nat.le.intro hbc, Nat.le.intro hbs⟩) hW (fun u8 h9 H locs hW => ?_)
            replace h := h9
            clear h9
            refine lv_aload hx hb dX5_vote_69 (lv_at hl 0 rfl) ?_
            obtain ⟨hob, h⟩ := h
            refine cI (runV (n := 0) (As := []) (rest := []) F hW (c_X3_daysKept F.2.2.2 G a3 u8 _ h) hob (ci := 4) rfl q_185 q_186 q_187 q_25 q_188 rfl (by decide +kernel) ⟨Nat.le_of_ble_eq_true rfl, Nat.le_of_ble_eq_true rfl⟩ dX5_vote_71 rfl hl.1 (Nat.le_of_ble_eq_true rfl) ⟨Nat.le.intro hbc, Nat.le.intro hbs⟩) hW (fun r11 u10 h9 H locs hW => ?_)
            replace h := h9
            clear h9
            refine W.widen (k := MC) (n := MS) (Nat.le.intro hbc) (Nat.le.intro hbs) ?_
            exact vx_ret (retI F hr hW h dX5_vote_74)
          · have h := h.2 hc7
            exact t_X5_vote_52 v0 v1 v2 v3 MC MS F hr hout K X MC MS u1 _ _ _ _ _ h hW (lv_sub hl [1, 2, 3, 4] rfl) hbc hbs
      · have h := h.2 hc5
        exact t_X5_vote_31 v0 v1 v2 v3 MC MS F hr hout K X MC MS u1 _ _ _ _ _ h hW (lv_sub hl [1, 2, 3, 4] rfl) hbc hbs
set_option maxHeartbeats 4000000 in
set_option maxRecDepth 100000 in
theorem t_X5_ask_14 {p : Program} {l : Launch} {e : Env} {s : State} {m : MethodId} {below : List Frame} {meth : Method} {c : Code} {G : Ctx} (v0 : Nat) (v1 : Int32) (v2 : Int32) (MC MS : Nat) (F : Fx p l s m ([.ref v0, .int v1, .int v2]).toArray meth c cX5_ask 4 RX5 G) (hr : meth.sig.returnType = (some .int)) (hout : ∀ x ∈ c.exceptionTable.toList, False) (K : Int32 → Mem → Prop) (X : String → Mem → Prop) : ∀ (mc ms : Nat) (u : Mem) (H : Heap) (locs : List Loc) (cells slots : Nat) (ls : Array Slot), w_X5_ask_14 G v0 v1 v2 K X mc ms u → Wd G u s H locs → lv_has ls 4 [(0, .ref v0), (1, .int v1), (2, .int v2)] → cells + mc = MC → slots + ms = MS → W p l e { frames := 7, cells := MC, slots := MS, locals := 191 } s m ([.ref v0, .int v1, .int v2]).toArray below meth c H locs cells slots (vx_MQ below (va_Qi K (fun u' t => Wp G u' t.heap) (Ab G)) (XCt G X) ([.ref v0, .int v1, .int v2]).toArray s MC MS (Ab G)) (F0 m 14 ls []) := by
  have hx := F.1.1
  have hb := F.1.2.1
  intro mc ms u H locs cells slots ls h hW hl hbc hbs
  unfold w_X5_ask_14 at h
  have h1 := h.1
  have h6 := h.2.1
  have hc1 := bdf hbc h1
  have hs1 := bdf hbs h6
  exact rThrow F hW (cls := "java/lang/IndexOutOfBoundsException") (by decide) q_80 q_81 (List.mem_of_getElem? (i := 0) rfl) (xa_0 F) xg_0 hl.1 dX5_ask_14 dX5_ask_17 dX5_ask_18 dX5_ask_20 dX5_ask_23 hout (Nat.le_of_ble_eq_true rfl) (Nat.le_of_ble_eq_true rfl) hc1 hs1 h.2.2 hc1 hs1
set_option maxHeartbeats 4000000 in
set_option maxRecDepth 100000 in
theorem c_X5_ask {l : Launch} (hst : l.stackTraces = false) (G : Ctx) (v0 : Nat) (v1 : Int32) (v2 : Int32) (MC MS : Nat) (u : Mem) (K : Int32 → Mem → Prop) (X : String → Mem → Prop) (h : w_X5_ask G v0 v1 v2 MC MS u K X) : CtX l yX5_ask (.code yX5_ask cX5_ask 4 (some .int)) 7 191 MC MS G [.ref v0, .int v1, .int v2] u K X := by
  refine entX (by first | decide | decide +kernel) hst (by first | decide | exact Nat.le_of_ble_eq_true rfl) (fun p e s m below meth c ls F hr hout hW hl => ?_)
  have F : Fx p l s m ([.ref v0, .int v1, .int v2]).toArray meth c cX5_ask 4 RX5 G := F
  have hl : lv_has ls 4 [(0, .ref v0), (1, .int v1), (2, .int v2)] := hl
  have hx := F.1.1
  have hb := F.1.2.1
  have hbc : 0 + MC = MC := Nat.zero_add _
  have hbs : 0 + MS = MS := Nat.zero_add _
  unfold w_X5_ask at h
  refine lv_iload_n hx hb dX5_ask_0 rfl (lv_at hl 1 rfl) ?_
  refine cI (runS (n := 1) (As := [.int v1]) (rest := []) F hW (c_X5_isStreet F.2.2.2 G v1 u _ h) q_89 q_90 q_2 q_91 (by decide +kernel) ⟨Nat.le_of_ble_eq_true rfl, Nat.le_of_ble_eq_true rfl⟩ dX5_ask_1 rfl hl.1 (Nat.le_of_ble_eq_true rfl) ⟨Nat.le.intro hbc, Nat.le.intro hbs⟩) hW (fun r2 u1 h9 H locs hW => ?_)
  replace h := h9
  clear h9
  refine lv_if_eq (tgt := 14) hx hb dX5_ask_4 (by decide) (fun hc3 => ?_) (fun hc3 => ?_)
  · have h := h.1 hc3
    exact t_X5_ask_14 v0 v1 v2 MC MS F hr hout K X MC MS u1 _ _ _ _ _ h hW (lv_sub hl [0, 1, 2] rfl) hbc hbs
  · have h := h.2 hc3
    refine lv_iload_n hx hb dX5_ask_7 rfl (lv_at hl 2 rfl) ?_
    refine cI (runS (n := 1) (As := [.int v2]) (rest := []) F hW (c_X5_isStreet F.2.2.2 G v2 u1 _ h) q_89 q_90 q_2 q_91 (by decide +kernel) ⟨Nat.le_of_ble_eq_true rfl, Nat.le_of_ble_eq_true rfl⟩ dX5_ask_8 rfl hl.1 (Nat.le_of_ble_eq_true rfl) ⟨Nat.le.intro hbc, Nat.le.intro hbs⟩) hW (fun r5 u4 h9 H locs hW => ?_)
    replace h := h9
    clear h9
    refine lv_if_ne (tgt := 24) hx hb dX5_ask_11 (by decide) (fun hc6 => ?_) (fun hc6 => ?_)
    · have h := h.2 hc6
      refine lv_iload_n hx hb dX5_ask_24 rfl (lv_at hl 1 rfl) ?_
      refine lv_iload_n hx hb dX5_ask_25 rfl (lv_at hl 2 rfl) ?_
      refine lv_icmp_ne (tgt := 39) hx hb dX5_ask_26 (by decide) (fun hc7 => ?_) (fun hc7 => ?_)
      · have h := h.2 hc7
        refine lv_aload_n hx hb dX5_ask_39 rfl (lv_at hl 0 rfl) ?_
        refine gf_6_2 F hW h.1 q_17 dX5_ask_40 ?_
        replace h := h.2
        obtain ⟨r8, er⟩ : ∃ z, z = mR u4 194 v0 := ⟨_, rfl⟩
        rw [← er]
        replace h := h r8 er
        clear er
        obtain ⟨a9, ea, h⟩ := h
        subst ea
        obtain ⟨hob, h⟩ := h
        refine cI (runV (n := 0) (As := []) (rest := []) F hW (c_Jx4a65c_size_8abf5 F.2.2.2 G a9 u4 _ h) hob (ci := 0) rfl q_92 q_93 q_94 q_16 q_95 rfl (by decide +kernel) ⟨Nat.le_of_ble_eq_true rfl, Nat.le_of_ble_eq_true rfl⟩ dX5_ask_43 rfl hl.1 (Nat.le_of_ble_eq_true rfl) ⟨Nat.le.intro hbc, Nat.le.intro hbs⟩) hW (fun r11 u10 h9 H locs hW => ?_)
        replace h := h9
        clear h9
        refine lv_bipush (v := (60 : Int32)) hx hb dX5_ask_46 (by decide) ?_
        refine lv_icmp_lt (tgt := 61) hx hb dX5_ask_48 (by decide) (fun hc12 => ?_) (fun hc12 => ?_)
        · have h := h.1 hc12
          refine lv_aload_n hx hb dX5_ask_61 rfl (lv_at hl 0 rfl) ?_
          refine gf_6_2 F hW h.1 q_17 dX5_ask_62 ?_
          replace h := h.2
          obtain ⟨r13, er⟩ : ∃ z, z = mR u10 194 v0 := ⟨_, rfl⟩
          rw [← er]
          replace h := h r13 er
          clear er
          obtain ⟨a14, ea, h⟩ := h
          subst ea
          obtain ⟨hob, h⟩ := h
          refine cI (runV (n := 0) (As := []) (rest := []) F hW (c_Jx4a65c_size_8abf5 F.2.2.2 G a14 u10 _ h) hob (ci := 0) rfl q_92 q_93 q_94 q_16 q_95 rfl (by decide +kernel) ⟨Nat.le_of_ble_eq_true rfl, Nat.le_of_ble_eq_true rfl⟩ dX5_ask_65 rfl hl.1 (Nat.le_of_ble_eq_true rfl) ⟨Nat.le.intro hbc, Nat.le.intro hbs⟩) hW (fun r16 u15 h9 H locs hW => ?_)
          replace h := h9
          clear h9
          refine lv_istore_n (lv' := [(3, .int r16), (0, .ref v0), (1, .int v1), (2, .int v2)]) hx hb dX5_ask_68 rfl hl (by decide) rfl (fun ls hl9 => ?_)
          replace hl := hl9
          clear hl9
          refine lv_aload_n hx hb dX5_ask_69 rfl (lv_at hl 1 rfl) ?_
          refine gf_6_2 F hW h.1 q_17 dX5_ask_70 ?_
          replace h := h.2
          obtain ⟨r17, er⟩ : ∃ z, z = mR u15 194 v0 := ⟨_, rfl⟩
          rw [← er]
          replace h := h r17 er
          clear er
          obtain ⟨h1, h2, h⟩ := h
          refine nw_5 (R := ⟨7, MC, MS, 191⟩) F hW q_214 q_87 q_88 hbc hbs h1 h2 dX5_ask_73 (fun q18 H hq hW => ?_)
          replace h := h q18 hq
          replace hbc := bdg hbc h1
          replace hbs := bdg hbs h2
          clear h1 h2
          obtain ⟨u19, eu⟩ : ∃ z, z = mNew u15 q18 5 0 := ⟨_, rfl⟩
          rw [← eu] at hW
          replace h := h u19 eu
          clear eu
          refine lv_dup hx hb dX5_ask_76 rfl ?_
          refine lv_iload_n hx hb dX5_ask_77 rfl (lv_at hl 0 rfl) ?_
          refine lv_iload_n hx hb dX5_ask_78 rfl (lv_at hl 2 rfl) ?_
          refine lv_iload_n hx hb dX5_ask_79 rfl (lv_at hl 3 rfl) ?_
          refine cV (runI (n := 3) (As := [.int r16, .int v1, .int v2]) (rest := [.ref q18, va_rf r17]) F hW (c_X4_init F.2.2.2 G q18 r16 v1 v2 u19 _ h) q_97 q_98 q_88 q_99 rfl (by decide +kernel) ⟨Nat.le_of_ble_eq_true rfl, Nat.le_of_ble_eq_true rfl⟩ dX5_ask_80 rfl hl.1 (by simp only [List.map_cons, List.map_nil, va_rf_cat]; exact Nat.le_of_ble_eq_true rfl) ⟨Nat.le.intro hbc, Nat.le.intro hbs⟩) hW (fun u20 h9 H locs hW => ?_)
          replace h := h9
          clear h9
          obtain ⟨a22, ea, h⟩ := h
          subst ea
          obtain ⟨c25, b26, h1, h2, h⟩ := h
          have hf1 := bdf hbc h1
          have hf2 := bdf hbs h2
          obtain ⟨hob, h⟩ := h
          refine cI (runV (n := 1) (As := [.ref q18]) (rest := []) F hW (c_Jx4a65c_add_9ea2d F.2.2.2 G a22 q18 c25 b26 u20 _ h) hob (ci := 0) rfl q_108 q_109 q_110 q_16 q_111 rfl (by decide +kernel) ⟨Nat.le_of_ble_eq_true rfl, Nat.le_of_ble_eq_true rfl⟩ dX5_ask_83 rfl hl.1 (Nat.le_of_ble_eq_true rfl) ⟨hf1, hf2⟩) hW (fun r24 u23 h9 H locs hW => ?_)
          replace h := h9
          clear h9
          replace hbc := bdg hbc h1
          replace hbs := bdg hbs h2
          clear h1 h2 hf1 hf2
          refine lv_pop hx hb dX5_ask_86 rfl ?_
          refine lv_iload_n hx hb dX5_ask_87 rfl (lv_at hl 0 rfl) ?_
          refine W.widen (k := MC) (n := MS) (Nat.le.intro hbc) (Nat.le.intro hbs) ?_
          exact vx_ret (retI F hr hW h dX5_ask_88)
        · have h := h.2 hc12
          have h1 := h.1
          have h6 := h.2.1
          have hc1 := bdf hbc h1
          have hs1 := bdf hbs h6
          exact rThrow F hW (cls := "java/lang/IllegalStateException") (by decide) q_84 q_85 (List.mem_of_getElem? (i := 2) rfl) (xa_2 F) xg_2 hl.1 dX5_ask_51 dX5_ask_54 dX5_ask_55 dX5_ask_57 dX5_ask_60 hout (Nat.le_of_ble_eq_true rfl) (Nat.le_of_ble_eq_true rfl) hc1 hs1 h.2.2 hc1 hs1
      · have h := h.1 hc7
        have h1 := h.1
        have h6 := h.2.1
        have hc1 := bdf hbc h1
        have hs1 := bdf hbs h6
        exact rThrow F hW (cls := "java/lang/IllegalArgumentException") (by decide) q_82 q_83 (List.mem_of_getElem? (i := 1) rfl) (xa_1 F) xg_1 hl.1 dX5_ask_29 dX5_ask_32 dX5_ask_33 dX5_ask_35 dX5_ask_38 hout (Nat.le_of_ble_eq_true rfl) (Nat.le_of_ble_eq_true rfl) hc1 hs1 h.2.2 hc1 hs1
    · have h := h.1 hc6
      exact t_X5_ask_14 v0 v1 v2 MC MS F hr hout K X MC MS u4 _ _ _ _ _ h hW (lv_sub hl [0, 1, 2] rfl) hbc hbs
set_option maxHeartbeats 4000000 in
set_option maxRecDepth 100000 in
theorem c_X5_isBetter {l : Launch} (hst : l.stackTraces = false) (G : Ctx) (v0 : Nat) (v1 : Nat) (v2 : Int32) (u : Mem) (K : Int32 → Mem → Prop) (h : w_X5_isBetter G v0 v1 v2 u K) : CtI l yX5_isBetter (.code yX5_isBetter cX5_isBetter 5 (some .boolean)) 3 65 0 0 G [.ref v0, .ref v1, .int v2] u K := by
  refine entM (by first | decide | decide +kernel) hst (by first | decide | exact Nat.le_of_ble_eq_true rfl) (fun p e s m below meth c ls F hr hnm hW hl => ?_)
  have F : Fx p l s m ([.ref v0, .ref v1, .int v2]).toArray meth c cX5_isBetter 5 RX5 G := F
  have hnm : meth.name = "isBetter" := hnm
  have hl : lv_has ls 5 [(0, .ref v0), (1, .ref v1), (2, .int v2)] := hl
  have hx := F.1.1
  have hb := F.1.2.1
  unfold w_X5_isBetter at h
  refine lv_aload_n hx hb dX5_isBetter_0 rfl (lv_at hl 0 rfl) ?_
  refine gn_2_1 F hW h.1 (List.mem_of_getElem? (i := 4) rfl) dX5_isBetter_1 ?_
  replace h := h.2
  refine lv_iload_n hx hb dX5_isBetter_4 rfl (lv_at hl 2 rfl) ?_
  refine cI (runS (n := 2) (As := [.int (mI u 65 v0), .int v2]) (rest := []) F hW (c_X5_distance F.2.2.2 G (mI u 65 v0) v2 u _ h) q_275 q_276 q_2 q_277 (by decide +kernel) ⟨Nat.le_of_ble_eq_true rfl, Nat.le_of_ble_eq_true rfl⟩ dX5_isBetter_5 rfl hl.1 (Nat.le_of_ble_eq_true rfl) ⟨Nat.zero_le _, Nat.zero_le _⟩) hW (fun r2 u1 h9 H locs hW => ?_)
  replace h := h9
  clear h9
  refine lv_istore_n (lv' := [(3, .int r2), (0, .ref v0), (1, .ref v1), (2, .int v2)]) hx hb dX5_isBetter_8 rfl hl (by decide) rfl (fun ls hl9 => ?_)
  replace hl := hl9
  clear hl9
  refine lv_aload_n hx hb dX5_isBetter_9 rfl (lv_at hl 2 rfl) ?_
  refine gn_2_1 F hW h.1 (List.mem_of_getElem? (i := 4) rfl) dX5_isBetter_10 ?_
  replace h := h.2
  refine lv_iload_n hx hb dX5_isBetter_13 rfl (lv_at hl 3 rfl) ?_
  refine cI (runS (n := 2) (As := [.int (mI u1 65 v1), .int v2]) (rest := []) F hW (c_X5_distance F.2.2.2 G (mI u1 65 v1) v2 u1 _ h) q_275 q_276 q_2 q_277 (by decide +kernel) ⟨Nat.le_of_ble_eq_true rfl, Nat.le_of_ble_eq_true rfl⟩ dX5_isBetter_14 rfl hl.1 (Nat.le_of_ble_eq_true rfl) ⟨Nat.zero_le _, Nat.zero_le _⟩) hW (fun r4 u3 h9 H locs hW => ?_)
  replace h := h9
  clear h9
  refine lv_istore (lv' := [(4, .int r4), (3, .int r2), (0, .ref v0), (1, .ref v1), (2, .int v2)]) hx hb dX5_isBetter_17 hl (by decide) rfl (fun ls hl9 => ?_)
  replace hl := hl9
  clear hl9
  refine lv_iload_n hx hb dX5_isBetter_19 rfl (lv_at hl 1 rfl) ?_
  refine lv_iload hx hb dX5_isBetter_20 (lv_at hl 0 rfl) ?_
  refine lv_icmp_lt (tgt := 42) hx hb dX5_isBetter_22 (by decide) (fun hc5 => ?_) (fun hc5 => ?_)
  · have h := h.1 hc5
    refine lv_iconst (v := (1 : Int32)) hx hb dX5_isBetter_42 (by decide) ?_
    refine lv_goto (tgt := 47) hx hb dX5_isBetter_43 (by decide) ?_
    exact retZ F hr hW h.1 h.2 dX5_isBetter_47
  · have h := h.2 hc5
    refine lv_iload_n hx hb dX5_isBetter_25 rfl (lv_at hl 1 rfl) ?_
    refine lv_iload hx hb dX5_isBetter_26 (lv_at hl 0 rfl) ?_
    refine lv_icmp_ne (tgt := 46) hx hb dX5_isBetter_28 (by decide) (fun hc6 => ?_) (fun hc6 => ?_)
    · have h := h.2 hc6
      refine lv_iconst (v := (0 : Int32)) hx hb dX5_isBetter_46 (by decide) ?_
      exact retZ F hr hW h.1 h.2 dX5_isBetter_47
    · have h := h.1 hc6
      refine lv_aload_n hx hb dX5_isBetter_31 rfl (lv_at hl 2 rfl) ?_
      refine gn_2_2 F hW h.1 (List.mem_of_getElem? (i := 5) rfl) dX5_isBetter_32 ?_
      replace h := h.2
      refine lv_aload_n hx hb dX5_isBetter_35 rfl (lv_at hl 3 rfl) ?_
      refine gn_2_2 F hW h.1 (List.mem_of_getElem? (i := 5) rfl) dX5_isBetter_36 ?_
      replace h := h.2
      refine lv_icmp_le (tgt := 46) hx hb dX5_isBetter_39 (by decide) (fun hc7 => ?_) (fun hc7 => ?_)
      · have h := h.1 hc7
        refine lv_iconst (v := (0 : Int32)) hx hb dX5_isBetter_46 (by decide) ?_
        exact retZ F hr hW h.1 h.2 dX5_isBetter_47
      · have h := h.2 hc7
        refine lv_iconst (v := (1 : Int32)) hx hb dX5_isBetter_42 (by decide) ?_
        refine lv_goto (tgt := 47) hx hb dX5_isBetter_43 (by decide) ?_
        exact retZ F hr hW h.1 h.2 dX5_isBetter_47
set_option maxHeartbeats 4000000 in
set_option maxRecDepth 100000 in
theorem t_X5_bestFreeEscort_51 {p : Program} {l : Launch} {e : Env} {s : State} {m : MethodId} {below : List Frame} {meth : Method} {c : Code} {G : Ctx} (v0 : Nat) (v1 : Int32) (F : Fx p l s m ([.ref v0, .int v1]).toArray meth c cX5_bestFreeEscort 5 RX5 G) (hr : meth.sig.returnType = (some (.object "LanternDesk$Escort"))) (K : Option Nat → Mem → Prop) (J4 : Option Nat → Int32 → Mem → Prop) (hJ4 : ∀ (v2 : Option Nat) (v3 : Int32) (u : Mem) (H : Heap) (locs : List Loc) (ls : Array Slot), J4 v2 v3 u → Wd G u s H locs → lv_has ls 5 [(0, .ref v0), (1, .int v1), (2, va_rf v2), (3, .int v3)] → W p l e { frames := 4, cells := 0, slots := 0, locals := 89 } s m ([.ref v0, .int v1]).toArray below meth c H locs 0 0 (MQ below (va_Qq K (fun u' t => Wp G u' t.heap) (Ab G)) ([.ref v0, .int v1]).toArray s 0 0 (Ab G)) (F0 m 4 ls [])) : ∀ (v2 : Option Nat) (v3 : Int32) (u : Mem) (H : Heap) (locs : List Loc) (ls : Array Slot), w_X5_bestFreeEscort_51 G v0 v1 K J4 v2 v3 u → Wd G u s H locs → lv_has ls 5 [(0, .ref v0), (1, .int v1), (2, va_rf v2), (3, .int v3)] → W p l e { frames := 4, cells := 0, slots := 0, locals := 89 } s m ([.ref v0, .int v1]).toArray below meth c H locs 0 0 (MQ below (va_Qq K (fun u' t => Wp G u' t.heap) (Ab G)) ([.ref v0, .int v1]).toArray s 0 0 (Ab G)) (F0 m 51 ls []) := by
  have hx := F.1.1
  have hb := F.1.2.1
  intro v2 v3 u H locs ls h hW hl
  unfold w_X5_bestFreeEscort_51 at h
  refine lv_iinc (v := (v3 + 1)) (lv' := [(3, .int (v3 + 1)), (0, .ref v0), (1, .int v1), (2, va_rf v2)]) hx hb dX5_bestFreeEscort_51 hl (k := 3) rfl rfl (by decide) (by cases v2 <;> rfl) (fun ls hl9 => ?_)
  replace hl := hl9
  clear hl9
  refine lv_goto (tgt := 4) hx hb dX5_bestFreeEscort_54 (by decide) ?_
  exact hJ4 v2 (v3 + 1) u _ _ _ h hW (lv_sub hl [1, 2, 3, 0] rfl)
set_option maxHeartbeats 4000000 in
set_option maxRecDepth 100000 in
theorem t_X5_bestFreeEscort_48 {p : Program} {l : Launch} {e : Env} {s : State} {m : MethodId} {below : List Frame} {meth : Method} {c : Code} {G : Ctx} (v0 : Nat) (v1 : Int32) (F : Fx p l s m ([.ref v0, .int v1]).toArray meth c cX5_bestFreeEscort 5 RX5 G) (hr : meth.sig.returnType = (some (.object "LanternDesk$Escort"))) (K : Option Nat → Mem → Prop) (J4 : Option Nat → Int32 → Mem → Prop) (hJ4 : ∀ (v2 : Option Nat) (v3 : Int32) (u : Mem) (H : Heap) (locs : List Loc) (ls : Array Slot), J4 v2 v3 u → Wd G u s H locs → lv_has ls 5 [(0, .ref v0), (1, .int v1), (2, va_rf v2), (3, .int v3)] → W p l e { frames := 4, cells := 0, slots := 0, locals := 89 } s m ([.ref v0, .int v1]).toArray below meth c H locs 0 0 (MQ below (va_Qq K (fun u' t => Wp G u' t.heap) (Ab G)) ([.ref v0, .int v1]).toArray s 0 0 (Ab G)) (F0 m 4 ls [])) : ∀ (v3 : Int32) (v4 : Nat) (u : Mem) (H : Heap) (locs : List Loc) (ls : Array Slot), w_X5_bestFreeEscort_48 G v0 v1 K J4 v3 v4 u → Wd G u s H locs → lv_has ls 5 [(0, .ref v0), (1, .int v1), (3, .int v3), (4, .ref v4)] → W p l e { frames := 4, cells := 0, slots := 0, locals := 89 } s m ([.ref v0, .int v1]).toArray below meth c H locs 0 0 (MQ below (va_Qq K (fun u' t => Wp G u' t.heap) (Ab G)) ([.ref v0, .int v1]).toArray s 0 0 (Ab G)) (F0 m 48 ls []) := by
  have hx := F.1.1
  have hb := F.1.2.1
  intro v3 v4 u H locs ls h hW hl
  unfold w_X5_bestFreeEscort_48 at h
  refine lv_aload hx hb dX5_bestFreeEscort_48 (lv_at hl 3 rfl) ?_
  refine lv_astore_n (lv' := [(2, .ref v4), (0, .ref v0), (1, .int v1), (3, .int v3), (4, .ref v4)]) hx hb dX5_bestFreeEscort_50 rfl hl (by decide) rfl (fun ls hl9 => ?_)
  replace hl := hl9
  clear hl9
  exact t_X5_bestFreeEscort_51 v0 v1 F hr K J4 hJ4 (some v4) v3 u _ _ _ h hW (lv_sub hl [1, 2, 0, 3] rfl)
set_option maxHeartbeats 4000000 in
set_option maxRecDepth 100000 in
theorem t_X5_bestFreeEscort_4 {p : Program} {l : Launch} {e : Env} {s : State} {m : MethodId} {below : List Frame} {meth : Method} {c : Code} {G : Ctx} (v0 : Nat) (v1 : Int32) (F : Fx p l s m ([.ref v0, .int v1]).toArray meth c cX5_bestFreeEscort 5 RX5 G) (hr : meth.sig.returnType = (some (.object "LanternDesk$Escort"))) (K : Option Nat → Mem → Prop) : ∀ (n : Nat), ∀ (v2 : Option Nat) (v3 : Int32) (u : Mem) (H : Heap) (locs : List Loc) (ls : Array Slot), w_X5_bestFreeEscort_4 G v0 v1 K n v2 v3 u → Wd G u s H locs → lv_has ls 5 [(0, .ref v0), (1, .int v1), (2, va_rf v2), (3, .int v3)] → W p l e { frames := 4, cells := 0, slots := 0, locals := 89 } s m ([.ref v0, .int v1]).toArray below meth c H locs 0 0 (MQ below (va_Qq K (fun u' t => Wp G u' t.heap) (Ab G)) ([.ref v0, .int v1]).toArray s 0 0 (Ab G)) (F0 m 4 ls []) := by
  have hx := F.1.1
  have hb := F.1.2.1
  intro n
  induction n with
  | zero =>
    intro v2 v3 u H locs ls h hW hl
    exact h.elim
  | succ n hJ4 =>
    intro v2 v3 u H locs ls h hW hl
    have h : b_X5_bestFreeEscort_4 G v0 v1 K (w_X5_bestFreeEscort_4 G v0 v1 K n) v2 v3 u := h
    revert h
    generalize w_X5_bestFreeEscort_4 G v0 v1 K n = J4 at hJ4 ⊢
    intro h
    unfold b_X5_bestFreeEscort_4 at h
    refine lv_iload_n hx hb dX5_bestFreeEscort_4 rfl (lv_at hl 3 rfl) ?_
    refine lv_aload_n hx hb dX5_bestFreeEscort_5 rfl (lv_at hl 0 rfl) ?_
    refine gf_6_1 F hW h.1 q_13 dX5_bestFreeEscort_6 ?_
    replace h := h.2
    obtain ⟨r25, er⟩ : ∃ z, z = mR u 193 v0 := ⟨_, rfl⟩
    rw [← er]
    replace h := h r25 er
    clear er
    obtain ⟨a26, ea, h⟩ := h
    subst ea
    refine rLen_12 F hW h.1 dX5_bestFreeEscort_9 ?_
    replace h := h.2
    refine lv_icmp_ge (tgt := 57) hx hb dX5_bestFreeEscort_10 (by decide) (fun hc27 => ?_) (fun hc27 => ?_)
    · have h := h.1 hc27
      refine rLdn F dX5_bestFreeEscort_57 rfl (lv_at hl 2 rfl) ?_
      exact retQ (v := v2) F hr (Or.inl ⟨_, rfl⟩) hW h dX5_bestFreeEscort_58
    · have h := h.2 hc27
      refine lv_aload_n hx hb dX5_bestFreeEscort_13 rfl (lv_at hl 0 rfl) ?_
      refine gf_6_1 F hW h.1 q_13 dX5_bestFreeEscort_14 ?_
      replace h := h.2
      obtain ⟨r28, er⟩ : ∃ z, z = mR u 193 v0 := ⟨_, rfl⟩
      rw [← er]
      replace h := h r28 er
      clear er
      refine lv_iload_n hx hb dX5_bestFreeEscort_17 rfl (lv_at hl 3 rfl) ?_
      obtain ⟨a29, ea, h⟩ := h
      subst ea
      refine rQald_12 F hW h.1 h.2.1 dX5_bestFreeEscort_18 ?_
      replace h := h.2.2
      obtain ⟨r30, er⟩ : ∃ z, z = mB u a29 v3.toNatClampNeg := ⟨_, rfl⟩
      rw [← er]
      replace h := h r30 er
      clear er
      refine rSt (lv' := [(4, va_rf r30), (0, .ref v0), (1, .int v1), (2, va_rf v2), (3, .int v3)]) F dX5_bestFreeEscort_19 hl (by decide) rfl (fun ls hl9 => ?_)
      replace hl := hl9
      clear hl9
      refine rLd F dX5_bestFreeEscort_21 (lv_at hl 0 rfl) ?_
      cases r30 with
      | none =>
        replace h := h.1 rfl
        refine lv_ifnullN (tgt := 51) hx hb dX5_bestFreeEscort_23 (by decide) ?_
        exact t_X5_bestFreeEscort_51 v0 v1 F hr K J4 hJ4 v2 v3 u _ _ _ h hW (lv_sub hl [1, 2, 3, 4] rfl)
      | some a31 =>
        replace h := h.2 a31 rfl
        refine lv_ifnull hx hb dX5_bestFreeEscort_23 ?_
        refine lv_aload hx hb dX5_bestFreeEscort_26 (lv_at hl 0 rfl) ?_
        refine gn_2_3 F hW h.1 (List.mem_of_getElem? (i := 6) rfl) dX5_bestFreeEscort_28 ?_
        replace h := h.2
        refine lv_if_eq (tgt := 51) hx hb dX5_bestFreeEscort_31 (by decide) (fun hc32 => ?_) (fun hc32 => ?_)
        · have h := h.1 hc32
          exact t_X5_bestFreeEscort_51 v0 v1 F hr K J4 hJ4 v2 v3 u _ _ _ h hW (lv_sub hl [1, 2, 3, 4] rfl)
        · have h := h.2 hc32
          refine rLdn F dX5_bestFreeEscort_34 rfl (lv_at hl 3 rfl) ?_
          cases v2 with
          | none =>
            replace h := h.1 rfl
            refine lv_ifnullN (tgt := 48) hx hb dX5_bestFreeEscort_35 (by decide) ?_
            exact t_X5_bestFreeEscort_48 v0 v1 F hr K J4 hJ4 v3 a31 u _ _ _ h hW (lv_sub hl [1, 2, 4, 0] rfl)
          | some a33 =>
            replace h := h.2 a33 rfl
            refine lv_ifnull hx hb dX5_bestFreeEscort_35 ?_
            refine lv_aload hx hb dX5_bestFreeEscort_38 (lv_at hl 0 rfl) ?_
            refine lv_aload_n hx hb dX5_bestFreeEscort_40 rfl (lv_at hl 3 rfl) ?_
            refine lv_iload_n hx hb dX5_bestFreeEscort_41 rfl (lv_at hl 2 rfl) ?_
            refine cI (runS (n := 3) (As := [.ref a31, .ref a33, .int v1]) (rest := []) F hW (c_X5_isBetter F.2.2.2 G a31 a33 v1 u _ h) q_272 q_273 q_2 q_274 (by decide +kernel) ⟨Nat.le_of_ble_eq_true rfl, Nat.le_of_ble_eq_true rfl⟩ dX5_bestFreeEscort_42 rfl hl.1 (Nat.le_of_ble_eq_true rfl) ⟨Nat.zero_le _, Nat.zero_le _⟩) hW (fun r35 u34 h9 H locs hW => ?_)
            replace h := h9
            clear h9
            refine lv_if_eq (tgt := 51) hx hb dX5_bestFreeEscort_45 (by decide) (fun hc36 => ?_) (fun hc36 => ?_)
            · have h := h.1 hc36
              exact t_X5_bestFreeEscort_51 v0 v1 F hr K J4 hJ4 (some a33) v3 u34 _ _ _ h hW (lv_sub hl [1, 2, 3, 4] rfl)
            · have h := h.2 hc36
              exact t_X5_bestFreeEscort_48 v0 v1 F hr K J4 hJ4 v3 a31 u34 _ _ _ h hW (lv_sub hl [1, 2, 4, 0] rfl)
set_option maxHeartbeats 4000000 in
set_option maxRecDepth 100000 in
theorem c_X5_bestFreeEscort {l : Launch} (hst : l.stackTraces = false) (G : Ctx) (v0 : Nat) (v1 : Int32) (u : Mem) (K : Option Nat → Mem → Prop) (h : w_X5_bestFreeEscort G v0 v1 u K) : CtQ l yX5_bestFreeEscort (.code yX5_bestFreeEscort cX5_bestFreeEscort 5 (some (.object "LanternDesk$Escort"))) 4 89 0 0 G [.ref v0, .int v1] u K := by
  refine entM (by first | decide | decide +kernel) hst (by first | decide | exact Nat.le_of_ble_eq_true rfl) (fun p e s m below meth c ls F hr hnm hW hl => ?_)
  have F : Fx p l s m ([.ref v0, .int v1]).toArray meth c cX5_bestFreeEscort 5 RX5 G := F
  have hnm : meth.name = "bestFreeEscort" := hnm
  have hl : lv_has ls 5 [(0, .ref v0), (1, .int v1)] := hl
  have hx := F.1.1
  have hb := F.1.2.1
  unfold w_X5_bestFreeEscort at h
  refine lv_null hx hb dX5_bestFreeEscort_0 ?_
  refine lv_astore_nN (lv' := [(2, .null), (0, .ref v0), (1, .int v1)]) hx hb dX5_bestFreeEscort_1 rfl hl (by decide) rfl (fun ls hl9 => ?_)
  replace hl := hl9
  clear hl9
  refine lv_iconst (v := (0 : Int32)) hx hb dX5_bestFreeEscort_2 (by decide) ?_
  refine lv_istore_n (lv' := [(3, .int (0 : Int32)), (2, .null), (0, .ref v0), (1, .int v1)]) hx hb dX5_bestFreeEscort_3 rfl hl (by decide) rfl (fun ls hl9 => ?_)
  replace hl := hl9
  clear hl9
  obtain ⟨n, h⟩ := h
  exact t_X5_bestFreeEscort_4 v0 v1 F hr K n none (0 : Int32) u _ _ _ h hW (lv_sub hl [2, 3, 1, 0] rfl)
set_option maxHeartbeats 4000000 in
set_option maxRecDepth 100000 in
theorem c_X5_endIfThere {l : Launch} (hst : l.stackTraces = false) (G : Ctx) (v0 : Nat) (v1 : Nat) (u : Mem) (K : Int32 → Mem → Prop) (h : w_X5_endIfThere G v0 v1 u K) : CtI l yX5_endIfThere (.code yX5_endIfThere cX5_endIfThere 2 (some .int)) 0 0 0 0 G [.ref v0, .ref v1] u K := by
  refine entM (by first | decide | decide +kernel) hst (by first | decide | exact Nat.le_of_ble_eq_true rfl) (fun p e s m below meth c ls F hr hnm hW hl => ?_)
  have F : Fx p l s m ([.ref v0, .ref v1]).toArray meth c cX5_endIfThere 2 RX5 G := F
  have hnm : meth.name = "endIfThere" := hnm
  have hl : lv_has ls 2 [(0, .ref v0), (1, .ref v1)] := hl
  have hx := F.1.1
  have hb := F.1.2.1
  unfold w_X5_endIfThere at h
  refine lv_aload_n hx hb dX5_endIfThere_0 rfl (lv_at hl 1 rfl) ?_
  refine gn_2_1 F hW h.1 (List.mem_of_getElem? (i := 4) rfl) dX5_endIfThere_1 ?_
  replace h := h.2
  refine lv_aload_n hx hb dX5_endIfThere_4 rfl (lv_at hl 0 rfl) ?_
  refine gn_5_2 F hW h.1 (List.mem_of_getElem? (i := 9) rfl) dX5_endIfThere_5 ?_
  replace h := h.2
  refine lv_icmp_eq (tgt := 13) hx hb dX5_endIfThere_8 (by decide) (fun hc1 => ?_) (fun hc1 => ?_)
  · have h := h.1 hc1
    refine lv_aload_n hx hb dX5_endIfThere_13 rfl (lv_at hl 0 rfl) ?_
    refine lv_iconst (v := (3 : Int32)) hx hb dX5_endIfThere_14 (by decide) ?_
    refine pn_5_3 F hW (x := (3 : Int32)) h.1 (List.mem_of_getElem? (i := 10) rfl) dX5_endIfThere_15 (fun H locs hW => ?_)
    replace h := h.2
    obtain ⟨u2, eu⟩ : ∃ z, z = setI u 163 v0 (3 : Int32) := ⟨_, rfl⟩
    rw [← eu] at hW
    replace h := h u2 eu
    clear eu
    refine lv_aload_n hx hb dX5_endIfThere_18 rfl (lv_at hl 1 rfl) ?_
    refine lv_iconst (v := (1 : Int32)) hx hb dX5_endIfThere_19 (by decide) ?_
    refine pn_2_3 F hW (x := (1 : Int32)) h.1 (List.mem_of_getElem? (i := 6) rfl) h.2.1 dX5_endIfThere_20 (fun H locs hW => ?_)
    replace h := h.2.2
    obtain ⟨u3, eu⟩ : ∃ z, z = setI u2 67 v1 (1 : Int32) := ⟨_, rfl⟩
    rw [← eu] at hW
    replace h := h u3 eu
    clear eu
    refine lv_iconst (v := (1 : Int32)) hx hb dX5_endIfThere_23 (by decide) ?_
    exact retI F hr hW h dX5_endIfThere_24
  · have h := h.2 hc1
    refine lv_iconst (v := (0 : Int32)) hx hb dX5_endIfThere_11 (by decide) ?_
    exact retI F hr hW h dX5_endIfThere_12
set_option maxHeartbeats 4000000 in
set_option maxRecDepth 100000 in
theorem t_X5_giveEscorts_61 {p : Program} {l : Launch} {e : Env} {s : State} {m : MethodId} {below : List Frame} {meth : Method} {c : Code} {G : Ctx} (v0 : Nat) (F : Fx p l s m ([.ref v0]).toArray meth c cX5_giveEscorts 4 RX5 G) (hr : meth.sig.returnType = none) (K : Mem → Prop) (J2 : Int32 → Mem → Prop) (hJ2 : ∀ (v1 : Int32) (u : Mem) (H : Heap) (locs : List Loc) (ls : Array Slot), J2 v1 u → Wd G u s H locs → lv_has ls 4 [(0, .ref v0), (1, .int v1)] → W p l e { frames := 5, cells := 0, slots := 0, locals := 113 } s m ([.ref v0]).toArray below meth c H locs 0 0 (MQ below (va_Qv K (fun u' t => Wp G u' t.heap) (Ab G)) ([.ref v0]).toArray s 0 0 (Ab G)) (F0 m 2 ls [])) : ∀ (v1 : Int32) (u : Mem) (H : Heap) (locs : List Loc) (ls : Array Slot), w_X5_giveEscorts_61 G v0 K J2 v1 u → Wd G u s H locs → lv_has ls 4 [(0, .ref v0), (1, .int v1)] → W p l e { frames := 5, cells := 0, slots := 0, locals := 113 } s m ([.ref v0]).toArray below meth c H locs 0 0 (MQ below (va_Qv K (fun u' t => Wp G u' t.heap) (Ab G)) ([.ref v0]).toArray s 0 0 (Ab G)) (F0 m 61 ls []) := by
  have hx := F.1.1
  have hb := F.1.2.1
  intro v1 u H locs ls h hW hl
  unfold w_X5_giveEscorts_61 at h
  refine lv_iinc (v := (v1 + 1)) (lv' := [(1, .int (v1 + 1)), (0, .ref v0)]) hx hb dX5_giveEscorts_61 hl (k := 1) rfl rfl (by decide) rfl (fun ls hl9 => ?_)
  replace hl := hl9
  clear hl9
  refine lv_goto (tgt := 2) hx hb dX5_giveEscorts_64 (by decide) ?_
  exact hJ2 (v1 + 1) u _ _ _ h hW (lv_sub hl [1, 0] rfl)
set_option maxHeartbeats 4000000 in
set_option maxRecDepth 100000 in
theorem t_X5_giveEscorts_2 {p : Program} {l : Launch} {e : Env} {s : State} {m : MethodId} {below : List Frame} {meth : Method} {c : Code} {G : Ctx} (v0 : Nat) (F : Fx p l s m ([.ref v0]).toArray meth c cX5_giveEscorts 4 RX5 G) (hr : meth.sig.returnType = none) (K : Mem → Prop) : ∀ (n : Nat), ∀ (v1 : Int32) (u : Mem) (H : Heap) (locs : List Loc) (ls : Array Slot), w_X5_giveEscorts_2 G v0 K n v1 u → Wd G u s H locs → lv_has ls 4 [(0, .ref v0), (1, .int v1)] → W p l e { frames := 5, cells := 0, slots := 0, locals := 113 } s m ([.ref v0]).toArray below meth c H locs 0 0 (MQ below (va_Qv K (fun u' t => Wp G u' t.heap) (Ab G)) ([.ref v0]).toArray s 0 0 (Ab G)) (F0 m 2 ls []) := by
  have hx := F.1.1
  have hb := F.1.2.1
  intro n
  induction n with
  | zero =>
    intro v1 u H locs ls h hW hl
    exact h.elim
  | succ n hJ2 =>
    intro v1 u H locs ls h hW hl
    have h : b_X5_giveEscorts_2 G v0 K (w_X5_giveEscorts_2 G v0 K n) v1 u := h
    revert h
    generalize w_X5_giveEscorts_2 G v0 K n = J2 at hJ2 ⊢
    intro h
    unfold b_X5_giveEscorts_2 at h
    refine lv_iload_n hx hb dX5_giveEscorts_2 rfl (lv_at hl 1 rfl) ?_
    refine lv_aload_n hx hb dX5_giveEscorts_3 rfl (lv_at hl 0 rfl) ?_
    refine gf_6_2 F hW h.1 q_17 dX5_giveEscorts_4 ?_
    replace h := h.2
    obtain ⟨r35, er⟩ : ∃ z, z = mR u 194 v0 := ⟨_, rfl⟩
    rw [← er]
    replace h := h r35 er
    clear er
    obtain ⟨a36, ea, h⟩ := h
    subst ea
    obtain ⟨hob, h⟩ := h
    refine cI (runV (n := 0) (As := []) (rest := [.int v1]) F hW (c_Jx4a65c_size_8abf5 F.2.2.2 G a36 u _ h) hob (ci := 0) rfl q_92 q_93 q_94 q_16 q_95 rfl (by decide +kernel) ⟨Nat.le_of_ble_eq_true rfl, Nat.le_of_ble_eq_true rfl⟩ dX5_giveEscorts_7 rfl hl.1 (Nat.le_of_ble_eq_true rfl) ⟨Nat.zero_le _, Nat.zero_le _⟩) hW (fun r38 u37 h9 H locs hW => ?_)
    replace h := h9
    clear h9
    refine lv_icmp_ge (tgt := 67) hx hb dX5_giveEscorts_10 (by decide) (fun hc39 => ?_) (fun hc39 => ?_)
    · have h := h.1 hc39
      exact retV F hr hW h dX5_giveEscorts_67
    · have h := h.2 hc39
      refine lv_aload_n hx hb dX5_giveEscorts_13 rfl (lv_at hl 0 rfl) ?_
      refine gf_6_2 F hW h.1 q_17 dX5_giveEscorts_14 ?_
      replace h := h.2
      obtain ⟨r40, er⟩ : ∃ z, z = mR u37 194 v0 := ⟨_, rfl⟩
      rw [← er]
      replace h := h r40 er
      clear er
      refine lv_iload_n hx hb dX5_giveEscorts_17 rfl (lv_at hl 1 rfl) ?_
      obtain ⟨a41, ea, h⟩ := h
      subst ea
      obtain ⟨hob, h⟩ := h
      refine cQ (runV (n := 1) (As := [.int v1]) (rest := []) F hW (c_Jx4a65c_get_915e3 F.2.2.2 G a41 v1 u37 _ h) hob (ci := 0) rfl q_215 q_216 q_217 q_16 q_218 rfl (by decide +kernel) ⟨Nat.le_of_ble_eq_true rfl, Nat.le_of_ble_eq_true rfl⟩ dX5_giveEscorts_18 rfl hl.1 (Nat.le_of_ble_eq_true rfl) ⟨Nat.zero_le _, Nat.zero_le _⟩) hW (fun r43 u42 h9 H locs hW => ?_)
      replace h := h9
      clear h9
      obtain ⟨a44, ea, h⟩ := h
      subst ea
      refine rCast F hW h.1 (ci := 5) rfl q_214 dX5_giveEscorts_21 ?_
      replace h := h.2
      refine lv_astore_n (lv' := [(2, .ref a44), (0, .ref v0), (1, .int v1)]) hx hb dX5_giveEscorts_24 rfl hl (by decide) rfl (fun ls hl9 => ?_)
      replace hl := hl9
      clear hl9
      refine lv_aload_n hx hb dX5_giveEscorts_25 rfl (lv_at hl 0 rfl) ?_
      refine gn_5_3 F hW h.1 (List.mem_of_getElem? (i := 10) rfl) dX5_giveEscorts_26 ?_
      replace h := h.2
      refine lv_if_ne (tgt := 61) hx hb dX5_giveEscorts_29 (by decide) (fun hc45 => ?_) (fun hc45 => ?_)
      · have h := h.2 hc45
        exact t_X5_giveEscorts_61 v0 F hr K J2 hJ2 v1 u42 _ _ _ h hW (lv_sub hl [1, 2] rfl)
      · have h := h.1 hc45
        refine lv_aload_n hx hb dX5_giveEscorts_32 rfl (lv_at hl 1 rfl) ?_
        refine lv_aload_n hx hb dX5_giveEscorts_33 rfl (lv_at hl 0 rfl) ?_
        refine gn_5_1 F hW h.1 (List.mem_of_getElem? (i := 8) rfl) dX5_giveEscorts_34 ?_
        replace h := h.2
        obtain ⟨hob, h⟩ := h
        refine cQ (runV (n := 1) (As := [.int (mI u42 161 a44)]) (rest := []) F hW (c_X5_bestFreeEscort F.2.2.2 G v0 (mI u42 161 a44) u42 _ h) hob (ci := 6) rfl q_268 q_269 q_270 q_2 q_271 rfl (by decide +kernel) ⟨Nat.le_of_ble_eq_true rfl, Nat.le_of_ble_eq_true rfl⟩ dX5_giveEscorts_37 rfl hl.1 (Nat.le_of_ble_eq_true rfl) ⟨Nat.zero_le _, Nat.zero_le _⟩) hW (fun r47 u46 h9 H locs hW => ?_)
        replace h := h9
        clear h9
        refine rStn (lv' := [(3, va_rf r47), (2, .ref a44), (0, .ref v0), (1, .int v1)]) F dX5_giveEscorts_40 rfl hl (by decide) rfl (fun ls hl9 => ?_)
        replace hl := hl9
        clear hl9
        refine rLdn F dX5_giveEscorts_41 rfl (lv_at hl 0 rfl) ?_
        cases r47 with
        | none =>
          replace h := h.1 rfl
          refine lv_ifnonnullN hx hb dX5_giveEscorts_42 ?_
          exact retV F hr hW h dX5_giveEscorts_45
        | some a48 =>
          replace h := h.2 a48 rfl
          refine lv_ifnonnull (tgt := 46) hx hb dX5_giveEscorts_42 (by decide) ?_
          refine lv_aload_n hx hb dX5_giveEscorts_46 rfl (lv_at hl 0 rfl) ?_
          refine lv_iconst (v := (0 : Int32)) hx hb dX5_giveEscorts_47 (by decide) ?_
          refine pn_2_3 F hW (x := (0 : Int32)) h.1 (List.mem_of_getElem? (i := 6) rfl) h.2.1 dX5_giveEscorts_48 (fun H locs hW => ?_)
          replace h := h.2.2
          obtain ⟨u49, eu⟩ : ∃ z, z = setI u46 67 a48 (0 : Int32) := ⟨_, rfl⟩
          rw [← eu] at hW
          replace h := h u49 eu
          clear eu
          refine lv_aload_n hx hb dX5_giveEscorts_51 rfl (lv_at hl 1 rfl) ?_
          refine lv_aload_n hx hb dX5_giveEscorts_52 rfl (lv_at hl 0 rfl) ?_
          refine pn_5_4 F hW (x := (some a48)) h.1 (List.mem_of_getElem? (i := 11) rfl) dX5_giveEscorts_53 (fun H locs hW => ?_)
          replace h := h.2
          obtain ⟨u50, eu⟩ : ∃ z, z = setR u49 164 a44 (some a48) := ⟨_, rfl⟩
          rw [← eu] at hW
          replace h := h u50 eu
          clear eu
          refine lv_aload_n hx hb dX5_giveEscorts_56 rfl (lv_at hl 1 rfl) ?_
          refine lv_iconst (v := (1 : Int32)) hx hb dX5_giveEscorts_57 (by decide) ?_
          refine pn_5_3 F hW (x := (1 : Int32)) h.1 (List.mem_of_getElem? (i := 10) rfl) dX5_giveEscorts_58 (fun H locs hW => ?_)
          replace h := h.2
          obtain ⟨u51, eu⟩ : ∃ z, z = setI u50 163 a44 (1 : Int32) := ⟨_, rfl⟩
          rw [← eu] at hW
          replace h := h u51 eu
          clear eu
          exact t_X5_giveEscorts_61 v0 F hr K J2 hJ2 v1 u51 _ _ _ h hW (lv_sub hl [2, 3] rfl)
set_option maxHeartbeats 4000000 in
set_option maxRecDepth 100000 in
theorem c_X5_giveEscorts {l : Launch} (hst : l.stackTraces = false) (G : Ctx) (v0 : Nat) (u : Mem) (K : Mem → Prop) (h : w_X5_giveEscorts G v0 u K) : CtV l yX5_giveEscorts (.code yX5_giveEscorts cX5_giveEscorts 4 none) 5 113 0 0 G [.ref v0] u K := by
  refine entM (by first | decide | decide +kernel) hst (by first | decide | exact Nat.le_of_ble_eq_true rfl) (fun p e s m below meth c ls F hr hnm hW hl => ?_)
  have F : Fx p l s m ([.ref v0]).toArray meth c cX5_giveEscorts 4 RX5 G := F
  have hnm : meth.name = "giveEscorts" := hnm
  have hl : lv_has ls 4 [(0, .ref v0)] := hl
  have hx := F.1.1
  have hb := F.1.2.1
  unfold w_X5_giveEscorts at h
  refine lv_iconst (v := (0 : Int32)) hx hb dX5_giveEscorts_0 (by decide) ?_
  refine lv_istore_n (lv' := [(1, .int (0 : Int32)), (0, .ref v0)]) hx hb dX5_giveEscorts_1 rfl hl (by decide) rfl (fun ls hl9 => ?_)
  replace hl := hl9
  clear hl9
  obtain ⟨n, h⟩ := h
  exact t_X5_giveEscorts_2 v0 F hr K n (0 : Int32) u _ _ _ h hW (lv_sub hl [1, 0] rfl)
set_option maxHeartbeats 4000000 in
set_option maxRecDepth 100000 in
theorem t_X5_oneStepOn_29 {p : Program} {l : Launch} {e : Env} {s : State} {m : MethodId} {below : List Frame} {meth : Method} {c : Code} {G : Ctx} (v0 : Int32) (v1 : Int32) (F : Fx p l s m ([.int v0, .int v1]).toArray meth c cX5_oneStepOn 3 RX5 G) (hr : meth.sig.returnType = (some .int)) (K : Int32 → Mem → Prop) : ∀ (s0 : Int32) (u : Mem) (H : Heap) (locs : List Loc) (ls : Array Slot), w_X5_oneStepOn_29 G v0 v1 K s0 u → Wd G u s H locs → lv_has ls 3 [(0, .int v0), (1, .int v1)] → W p l e { frames := 2, cells := 0, slots := 0, locals := 43 } s m ([.int v0, .int v1]).toArray below meth c H locs 0 0 (MQ below (va_Qi K (fun u' t => Wp G u' t.heap) (Ab G)) ([.int v0, .int v1]).toArray s 0 0 (Ab G)) (F0 m 29 ls [.int s0]) := by
  have hx := F.1.1
  have hb := F.1.2.1
  intro s0 u H locs ls h hW hl
  unfold w_X5_oneStepOn_29 at h
  refine lv_bipush (v := (8 : Int32)) hx hb dX5_oneStepOn_29 (by decide) ?_
  refine cI (runS (n := 2) (As := [.int s0, .int (8 : Int32)]) (rest := []) F hW (c_J9_floorMod_7cf53 F.2.2.2 G s0 (8 : Int32) u _ h) q_281 q_282 q_283 q_284 (by decide +kernel) ⟨Nat.le_of_ble_eq_true rfl, Nat.le_of_ble_eq_true rfl⟩ dX5_oneStepOn_31 rfl hl.1 (Nat.le_of_ble_eq_true rfl) ⟨Nat.zero_le _, Nat.zero_le _⟩) hW (fun r10 u9 h9 H locs hW => ?_)
  replace h := h9
  clear h9
  exact retI F hr hW h dX5_oneStepOn_34
set_option maxHeartbeats 4000000 in
set_option maxRecDepth 100000 in
theorem c_X5_oneStepOn {l : Launch} (hst : l.stackTraces = false) (G : Ctx) (v0 : Int32) (v1 : Int32) (u : Mem) (K : Int32 → Mem → Prop) (h : w_X5_oneStepOn G v0 v1 u K) : CtI l yX5_oneStepOn (.code yX5_oneStepOn cX5_oneStepOn 3 (some .int)) 2 43 0 0 G [.int v0, .int v1] u K := by
  refine entM (by first | decide | decide +kernel) hst (by first | decide | exact Nat.le_of_ble_eq_true rfl) (fun p e s m below meth c ls F hr hnm hW hl => ?_)
  have F : Fx p l s m ([.int v0, .int v1]).toArray meth c cX5_oneStepOn 3 RX5 G := F
  have hnm : meth.name = "oneStepOn" := hnm
  have hl : lv_has ls 3 [(0, .int v0), (1, .int v1)] := hl
  have hx := F.1.1
  have hb := F.1.2.1
  unfold w_X5_oneStepOn at h
  refine lv_iload_n hx hb dX5_oneStepOn_0 rfl (lv_at hl 0 rfl) ?_
  refine lv_iload_n hx hb dX5_oneStepOn_1 rfl (lv_at hl 1 rfl) ?_
  refine cI (runS (n := 2) (As := [.int v0, .int v1]) (rest := []) F hW (c_X5_stepsUp F.2.2.2 G v0 v1 u _ h) q_278 q_279 q_2 q_280 (by decide +kernel) ⟨Nat.le_of_ble_eq_true rfl, Nat.le_of_ble_eq_true rfl⟩ dX5_oneStepOn_2 rfl hl.1 (Nat.le_of_ble_eq_true rfl) ⟨Nat.zero_le _, Nat.zero_le _⟩) hW (fun r2 u1 h9 H locs hW => ?_)
  replace h := h9
  clear h9
  refine lv_istore_n (lv' := [(2, .int r2), (0, .int v0), (1, .int v1)]) hx hb dX5_oneStepOn_5 rfl hl (by decide) rfl (fun ls hl9 => ?_)
  replace hl := hl9
  clear hl9
  refine lv_iload_n hx hb dX5_oneStepOn_6 rfl (lv_at hl 0 rfl) ?_
  refine lv_if_ne (tgt := 12) hx hb dX5_oneStepOn_7 (by decide) (fun hc3 => ?_) (fun hc3 => ?_)
  · have h := h.2 hc3
    refine lv_iload_n hx hb dX5_oneStepOn_12 rfl (lv_at hl 0 rfl) ?_
    refine lv_bipush (v := (8 : Int32)) hx hb dX5_oneStepOn_13 (by decide) ?_
    refine lv_iload_n hx hb dX5_oneStepOn_15 rfl (lv_at hl 0 rfl) ?_
    refine lv_isub hx hb dX5_oneStepOn_16 ?_
    refine lv_icmp_gt (tgt := 26) hx hb dX5_oneStepOn_17 (by decide) (fun hc4 => ?_) (fun hc4 => ?_)
    · have h := h.1 hc4
      refine lv_iload_n hx hb dX5_oneStepOn_26 rfl (lv_at hl 1 rfl) ?_
      refine lv_iconst (v := (1 : Int32)) hx hb dX5_oneStepOn_27 (by decide) ?_
      refine lv_isub hx hb dX5_oneStepOn_28 ?_
      exact t_X5_oneStepOn_29 v0 v1 F hr K (v0 - (1 : Int32)) u1 _ _ _ h hW (lv_sub hl [1, 2] rfl)
    · have h := h.2 hc4
      refine lv_iload_n hx hb dX5_oneStepOn_20 rfl (lv_at hl 1 rfl) ?_
      refine lv_iconst (v := (1 : Int32)) hx hb dX5_oneStepOn_21 (by decide) ?_
      refine lv_iadd hx hb dX5_oneStepOn_22 ?_
      refine lv_goto (tgt := 29) hx hb dX5_oneStepOn_23 (by decide) ?_
      exact t_X5_oneStepOn_29 v0 v1 F hr K (v0 + (1 : Int32)) u1 _ _ _ h hW (lv_sub hl [1, 2] rfl)
  · have h := h.1 hc3
    refine lv_iload_n hx hb dX5_oneStepOn_10 rfl (lv_at hl 1 rfl) ?_
    exact retI F hr hW h dX5_oneStepOn_11
set_option maxHeartbeats 4000000 in
set_option maxRecDepth 100000 in
theorem c_X5_move {l : Launch} (hst : l.stackTraces = false) (G : Ctx) (v0 : Nat) (v1 : Nat) (u : Mem) (K : Mem → Prop) (h : w_X5_move G v0 v1 u K) : CtV l yX5_move (.code yX5_move cX5_move 2 none) 3 65 0 0 G [.ref v0, .ref v1] u K := by
  refine entM (by first | decide | decide +kernel) hst (by first | decide | exact Nat.le_of_ble_eq_true rfl) (fun p e s m below meth c ls F hr hnm hW hl => ?_)
  have F : Fx p l s m ([.ref v0, .ref v1]).toArray meth c cX5_move 2 RX5 G := F
  have hnm : meth.name = "move" := hnm
  have hl : lv_has ls 2 [(0, .ref v0), (1, .ref v1)] := hl
  have hx := F.1.1
  have hb := F.1.2.1
  unfold w_X5_move at h
  refine lv_aload_n hx hb dX5_move_0 rfl (lv_at hl 0 rfl) ?_
  refine gn_5_3 F hW h.1 (List.mem_of_getElem? (i := 10) rfl) dX5_move_1 ?_
  replace h := h.2
  refine lv_iconst (v := (2 : Int32)) hx hb dX5_move_4 (by decide) ?_
  refine lv_icmp_ne (tgt := 24) hx hb dX5_move_5 (by decide) (fun hc1 => ?_) (fun hc1 => ?_)
  · have h := h.2 hc1
    refine lv_aload_n hx hb dX5_move_24 rfl (lv_at hl 1 rfl) ?_
    refine lv_aload_n hx hb dX5_move_25 rfl (lv_at hl 1 rfl) ?_
    refine gn_2_1 F hW h.1 (List.mem_of_getElem? (i := 4) rfl) dX5_move_26 ?_
    replace h := h.2
    refine lv_aload_n hx hb dX5_move_29 rfl (lv_at hl 0 rfl) ?_
    refine gn_5_1 F hW h.1 (List.mem_of_getElem? (i := 8) rfl) dX5_move_30 ?_
    replace h := h.2
    refine cI (runS (n := 2) (As := [.int (mI u 65 v1), .int (mI u 161 v0)]) (rest := [.ref v1]) F hW (c_X5_oneStepOn F.2.2.2 G (mI u 65 v1) (mI u 161 v0) u _ h) q_292 q_293 q_2 q_294 (by decide +kernel) ⟨Nat.le_of_ble_eq_true rfl, Nat.le_of_ble_eq_true rfl⟩ dX5_move_33 rfl hl.1 (Nat.le_of_ble_eq_true rfl) ⟨Nat.zero_le _, Nat.zero_le _⟩) hW (fun r3 u2 h9 H locs hW => ?_)
    replace h := h9
    clear h9
    refine pn_2_1 F hW (x := r3) h.1 (List.mem_of_getElem? (i := 4) rfl) dX5_move_36 (fun H locs hW => ?_)
    replace h := h.2
    obtain ⟨u4, eu⟩ : ∃ z, z = setI u2 65 v1 r3 := ⟨_, rfl⟩
    rw [← eu] at hW
    replace h := h u4 eu
    clear eu
    refine lv_aload_n hx hb dX5_move_39 rfl (lv_at hl 1 rfl) ?_
    refine gn_2_1 F hW h.1 (List.mem_of_getElem? (i := 4) rfl) dX5_move_40 ?_
    replace h := h.2
    refine lv_aload_n hx hb dX5_move_43 rfl (lv_at hl 0 rfl) ?_
    refine gn_5_1 F hW h.1 (List.mem_of_getElem? (i := 8) rfl) dX5_move_44 ?_
    replace h := h.2
    refine lv_icmp_ne (tgt := 55) hx hb dX5_move_47 (by decide) (fun hc5 => ?_) (fun hc5 => ?_)
    · have h := h.2 hc5
      exact retV F hr hW h dX5_move_55
    · have h := h.1 hc5
      refine lv_aload_n hx hb dX5_move_50 rfl (lv_at hl 0 rfl) ?_
      refine lv_iconst (v := (2 : Int32)) hx hb dX5_move_51 (by decide) ?_
      refine pn_5_3 F hW (x := (2 : Int32)) h.1 (List.mem_of_getElem? (i := 10) rfl) dX5_move_52 (fun H locs hW => ?_)
      replace h := h.2
      obtain ⟨u6, eu⟩ : ∃ z, z = setI u4 163 v0 (2 : Int32) := ⟨_, rfl⟩
      rw [← eu] at hW
      replace h := h u6 eu
      clear eu
      exact retV F hr hW h dX5_move_55
  · have h := h.1 hc1
    refine lv_aload_n hx hb dX5_move_8 rfl (lv_at hl 1 rfl) ?_
    refine lv_aload_n hx hb dX5_move_9 rfl (lv_at hl 1 rfl) ?_
    refine gn_2_1 F hW h.1 (List.mem_of_getElem? (i := 4) rfl) dX5_move_10 ?_
    replace h := h.2
    refine lv_aload_n hx hb dX5_move_13 rfl (lv_at hl 0 rfl) ?_
    refine gn_5_2 F hW h.1 (List.mem_of_getElem? (i := 9) rfl) dX5_move_14 ?_
    replace h := h.2
    refine cI (runS (n := 2) (As := [.int (mI u 65 v1), .int (mI u 162 v0)]) (rest := [.ref v1]) F hW (c_X5_oneStepOn F.2.2.2 G (mI u 65 v1) (mI u 162 v0) u _ h) q_292 q_293 q_2 q_294 (by decide +kernel) ⟨Nat.le_of_ble_eq_true rfl, Nat.le_of_ble_eq_true rfl⟩ dX5_move_17 rfl hl.1 (Nat.le_of_ble_eq_true rfl) ⟨Nat.zero_le _, Nat.zero_le _⟩) hW (fun r8 u7 h9 H locs hW => ?_)
    replace h := h9
    clear h9
    refine pn_2_1 F hW (x := r8) h.1 (List.mem_of_getElem? (i := 4) rfl) dX5_move_20 (fun H locs hW => ?_)
    replace h := h.2
    obtain ⟨u9, eu⟩ : ∃ z, z = setI u7 65 v1 r8 := ⟨_, rfl⟩
    rw [← eu] at hW
    replace h := h u9 eu
    clear eu
    exact retV F hr hW h dX5_move_23
set_option maxHeartbeats 4000000 in
set_option maxRecDepth 100000 in
theorem t_X5_see_48 {p : Program} {l : Launch} {e : Env} {s : State} {m : MethodId} {below : List Frame} {meth : Method} {c : Code} {G : Ctx} (v0 : Nat) (v1 : Nat) (v2 : Int32) (MC MS : Nat) (F : Fx p l s m ([.ref v0, .ref v1, .int v2]).toArray meth c cX5_see 4 RX5 G) (hr : meth.sig.returnType = none) (K : Mem → Prop) : ∀ (v3 : Nat) (mc ms : Nat) (u : Mem) (H : Heap) (locs : List Loc) (cells slots : Nat) (ls : Array Slot), w_X5_see_48 G v0 v1 v2 K v3 mc ms u → Wd G u s H locs → lv_has ls 4 [(0, .ref v0), (1, .ref v1), (2, .int v2), (3, .ref v3)] → cells + mc = MC → slots + ms = MS → W p l e { frames := 8, cells := MC, slots := MS, locals := 216 } s m ([.ref v0, .ref v1, .int v2]).toArray below meth c H locs cells slots (MQ below (va_Qv K (fun u' t => Wp G u' t.heap) (Ab G)) ([.ref v0, .ref v1, .int v2]).toArray s MC MS (Ab G)) (F0 m 48 ls []) := by
  have hx := F.1.1
  have hb := F.1.2.1
  intro v3 mc ms u H locs cells slots ls h hW hl hbc hbs
  unfold w_X5_see_48 at h
  refine lv_aload_n hx hb dX5_see_48 rfl (lv_at hl 3 rfl) ?_
  refine gn_4_2 F hW h.1 (List.mem_of_getElem? (i := 2) rfl) dX5_see_49 ?_
  replace h := h.2
  refine lv_if_eq (tgt := 80) hx hb dX5_see_52 (by decide) (fun hc25 => ?_) (fun hc25 => ?_)
  · have h := h.1 hc25
    refine W.widen (k := MC) (n := MS) (Nat.le.intro hbc) (Nat.le.intro hbs) ?_
    exact retV F hr hW h dX5_see_80
  · have h := h.2 hc25
    refine lv_aload_n hx hb dX5_see_55 rfl (lv_at hl 0 rfl) ?_
    refine gf_6_3 F hW h.1 q_21 dX5_see_56 ?_
    replace h := h.2
    obtain ⟨r26, er⟩ : ∃ z, z = mR u 195 v0 := ⟨_, rfl⟩
    rw [← er]
    replace h := h r26 er
    clear er
    refine lv_iload_n hx hb dX5_see_59 rfl (lv_at hl 2 rfl) ?_
    refine lv_aload_n hx hb dX5_see_60 rfl (lv_at hl 1 rfl) ?_
    refine gn_5_0 F hW h.1 (List.mem_of_getElem? (i := 7) rfl) dX5_see_61 ?_
    replace h := h.2
    refine lv_aload_n hx hb dX5_see_64 rfl (lv_at hl 0 rfl) ?_
    refine gf_6_4 F hW h.1 q_22 dX5_see_65 ?_
    replace h := h.2
    refine lv_aload_n hx hb dX5_see_68 rfl (lv_at hl 0 rfl) ?_
    refine gf_6_4 F hW h.1 q_22 dX5_see_69 ?_
    replace h := h.2
    refine lv_aload_n hx hb dX5_see_72 rfl (lv_at hl 3 rfl) ?_
    obtain ⟨hob, h⟩ := h
    refine cI (runV (n := 0) (As := []) (rest := [.int (mI u 196 v0), .int (mI u 196 v0), .int (mI u 160 v1), .int v2, va_rf r26]) F hW (c_X3_daysKept F.2.2.2 G v3 u _ h) hob (ci := 4) rfl q_185 q_186 q_187 q_25 q_188 rfl (by decide +kernel) ⟨Nat.le_of_ble_eq_true rfl, Nat.le_of_ble_eq_true rfl⟩ dX5_see_73 rfl hl.1 (by simp only [List.map_cons, List.map_nil, va_rf_cat]; exact Nat.le_of_ble_eq_true rfl) ⟨Nat.le.intro hbc, Nat.le.intro hbs⟩) hW (fun r28 u27 h9 H locs hW => ?_)
    replace h := h9
    clear h9
    refine lv_iadd hx hb dX5_see_76 ?_
    obtain ⟨a29, ea, h⟩ := h
    subst ea
    obtain ⟨c32, b33, h1, h2, h⟩ := h
    have hf1 := bdf hbc h1
    have hf2 := bdf hbs h2
    obtain ⟨hob, h⟩ := h
    refine cV (runV (n := 4) (As := [.int v2, .int (mI u 160 v1), .int (mI u 196 v0), .int ((mI u 196 v0) + r28)]) (rest := []) F hW (c_X0_take F.2.2.2 G a29 v2 (mI u 160 v1) (mI u 196 v0) ((mI u 196 v0) + r28) c32 b33 u27 _ h) hob (ci := 1) rfl q_299 q_300 q_301 q_20 q_302 rfl (by decide +kernel) ⟨Nat.le_of_ble_eq_true rfl, Nat.le_of_ble_eq_true rfl⟩ dX5_see_77 rfl hl.1 (Nat.le_of_ble_eq_true rfl) ⟨hf1, hf2⟩) hW (fun u30 h9 H locs hW => ?_)
    replace h := h9
    clear h9
    replace hbc := bdg hbc h1
    replace hbs := bdg hbs h2
    clear h1 h2 hf1 hf2
    refine W.widen (k := MC) (n := MS) (Nat.le.intro hbc) (Nat.le.intro hbs) ?_
    exact retV F hr hW h dX5_see_80
set_option maxHeartbeats 4000000 in
set_option maxRecDepth 100000 in
theorem c_X5_see {l : Launch} (hst : l.stackTraces = false) (G : Ctx) (v0 : Nat) (v1 : Nat) (v2 : Int32) (MC MS : Nat) (u : Mem) (K : Mem → Prop) (h : w_X5_see G v0 v1 v2 MC MS u K) : CtV l yX5_see (.code yX5_see cX5_see 4 none) 8 216 MC MS G [.ref v0, .ref v1, .int v2] u K := by
  refine entM (by first | decide | decide +kernel) hst (by first | decide | exact Nat.le_of_ble_eq_true rfl) (fun p e s m below meth c ls F hr hnm hW hl => ?_)
  have F : Fx p l s m ([.ref v0, .ref v1, .int v2]).toArray meth c cX5_see 4 RX5 G := F
  have hnm : meth.name = "see" := hnm
  have hl : lv_has ls 4 [(0, .ref v0), (1, .ref v1), (2, .int v2)] := hl
  have hx := F.1.1
  have hb := F.1.2.1
  have hbc : 0 + MC = MC := Nat.zero_add _
  have hbs : 0 + MS = MS := Nat.zero_add _
  unfold w_X5_see at h
  refine lv_aload_n hx hb dX5_see_0 rfl (lv_at hl 0 rfl) ?_
  refine lv_iload_n hx hb dX5_see_1 rfl (lv_at hl 2 rfl) ?_
  obtain ⟨hob, h⟩ := h
  refine cQ (runV (n := 1) (As := [.int v2]) (rest := []) F hW (c_X5_findStreet F.2.2.2 G v0 v2 u _ h) hob (ci := 6) rfl q_169 q_170 q_171 q_2 q_172 rfl (by decide +kernel) ⟨Nat.le_of_ble_eq_true rfl, Nat.le_of_ble_eq_true rfl⟩ dX5_see_2 rfl hl.1 (Nat.le_of_ble_eq_true rfl) ⟨Nat.le.intro hbc, Nat.le.intro hbs⟩) hW (fun r2 u1 h9 H locs hW => ?_)
  replace h := h9
  clear h9
  refine rStn (lv' := [(3, va_rf r2), (0, .ref v0), (1, .ref v1), (2, .int v2)]) F dX5_see_5 rfl hl (by decide) rfl (fun ls hl9 => ?_)
  replace hl := hl9
  clear hl9
  refine rLdn F dX5_see_6 rfl (lv_at hl 0 rfl) ?_
  cases r2 with
  | none =>
    replace h := h.1 rfl
    refine lv_ifnonnullN hx hb dX5_see_7 ?_
    refine W.widen (k := MC) (n := MS) (Nat.le.intro hbc) (Nat.le.intro hbs) ?_
    exact retV F hr hW h dX5_see_10
  | some a3 =>
    replace h := h.2 a3 rfl
    refine lv_ifnonnull (tgt := 11) hx hb dX5_see_7 (by decide) ?_
    refine lv_aload_n hx hb dX5_see_11 rfl (lv_at hl 0 rfl) ?_
    refine gn_4_0 F hW h.1 (List.mem_of_getElem? (i := 0) rfl) dX5_see_12 ?_
    replace h := h.2
    refine lv_aload_n hx hb dX5_see_15 rfl (lv_at hl 0 rfl) ?_
    refine gn_4_1 F hW h.1 (List.mem_of_getElem? (i := 1) rfl) dX5_see_16 ?_
    replace h := h.2
    refine lv_icmp_lt (tgt := 38) hx hb dX5_see_19 (by decide) (fun hc4 => ?_) (fun hc4 => ?_)
    · have h := h.1 hc4
      refine lv_aload_n hx hb dX5_see_38 rfl (lv_at hl 2 rfl) ?_
      refine lv_dup hx hb dX5_see_39 rfl ?_
      refine gn_5_5 F hW h.1 (List.mem_of_getElem? (i := 12) rfl) dX5_see_40 ?_
      replace h := h.2
      refine lv_iconst (v := (1 : Int32)) hx hb dX5_see_43 (by decide) ?_
      refine lv_iadd hx hb dX5_see_44 ?_
      refine pn_5_5 F hW (x := ((mI u1 165 v1) + (1 : Int32))) h.1 (List.mem_of_getElem? (i := 12) rfl) dX5_see_45 (fun H locs hW => ?_)
      replace h := h.2
      obtain ⟨u5, eu⟩ : ∃ z, z = setI u1 165 v1 ((mI u1 165 v1) + (1 : Int32)) := ⟨_, rfl⟩
      rw [← eu] at hW
      replace h := h u5 eu
      clear eu
      exact t_X5_see_48 v0 v1 v2 MC MS F hr K a3 MC MS u5 _ _ _ _ _ h hW (lv_sub hl [1, 2, 3, 0] rfl) hbc hbs
    · have h := h.2 hc4
      refine lv_aload_n hx hb dX5_see_22 rfl (lv_at hl 0 rfl) ?_
      refine lv_dup hx hb dX5_see_23 rfl ?_
      refine gn_4_0 F hW h.1 (List.mem_of_getElem? (i := 0) rfl) dX5_see_24 ?_
      replace h := h.2
      refine lv_aload_n hx hb dX5_see_27 rfl (lv_at hl 0 rfl) ?_
      refine gn_4_1 F hW h.1 (List.mem_of_getElem? (i := 1) rfl) dX5_see_28 ?_
      replace h := h.2
      refine lv_isub hx hb dX5_see_31 ?_
      refine pn_4_0 F hW (x := ((mI u1 128 a3) - (mI u1 129 a3))) h.1 (List.mem_of_getElem? (i := 0) rfl) dX5_see_32 (fun H locs hW => ?_)
      replace h := h.2
      obtain ⟨u6, eu⟩ : ∃ z, z = setI u1 128 a3 ((mI u1 128 a3) - (mI u1 129 a3)) := ⟨_, rfl⟩
      rw [← eu] at hW
      replace h := h u6 eu
      clear eu
      refine lv_goto (tgt := 48) hx hb dX5_see_35 (by decide) ?_
      exact t_X5_see_48 v0 v1 v2 MC MS F hr K a3 MC MS u6 _ _ _ _ _ h hW (lv_sub hl [1, 2, 3, 0] rfl) hbc hbs
set_option maxHeartbeats 4000000 in
set_option maxRecDepth 100000 in
theorem t_X5_goOn_79 {p : Program} {l : Launch} {e : Env} {s : State} {m : MethodId} {below : List Frame} {meth : Method} {c : Code} {G : Ctx} (v0 : Nat) (MC MS : Nat) (F : Fx p l s m ([.ref v0]).toArray meth c cX5_goOn 5 RX5 G) (hr : meth.sig.returnType = (some .int)) (K : Int32 → Mem → Prop) (J4 : Int32 → Int32 → Nat → Nat → Mem → Prop) (hJ4 : ∀ (v1 : Int32) (v2 : Int32) (mc ms : Nat) (u : Mem) (H : Heap) (locs : List Loc) (cells slots : Nat) (ls : Array Slot), J4 v1 v2 mc ms u → Wd G u s H locs → lv_has ls 5 [(0, .ref v0), (1, .int v1), (2, .int v2)] → cells + mc = MC → slots + ms = MS → W p l e { frames := 9, cells := MC, slots := MS, locals := 239 } s m ([.ref v0]).toArray below meth c H locs cells slots (MQ below (va_Qi K (fun u' t => Wp G u' t.heap) (Ab G)) ([.ref v0]).toArray s MC MS (Ab G)) (F0 m 4 ls [])) : ∀ (v1 : Int32) (v2 : Int32) (mc ms : Nat) (u : Mem) (H : Heap) (locs : List Loc) (cells slots : Nat) (ls : Array Slot), w_X5_goOn_79 G v0 K J4 v1 v2 mc ms u → Wd G u s H locs → lv_has ls 5 [(0, .ref v0), (1, .int v1), (2, .int v2)] → cells + mc = MC → slots + ms = MS → W p l e { frames := 9, cells := MC, slots := MS, locals := 239 } s m ([.ref v0]).toArray below meth c H locs cells slots (MQ below (va_Qi K (fun u' t => Wp G u' t.heap) (Ab G)) ([.ref v0]).toArray s MC MS (Ab G)) (F0 m 79 ls []) := by
  have hx := F.1.1
  have hb := F.1.2.1
  intro v1 v2 mc ms u H locs cells slots ls h hW hl hbc hbs
  unfold w_X5_goOn_79 at h
  refine lv_iinc (v := (v2 + 1)) (lv' := [(2, .int (v2 + 1)), (0, .ref v0), (1, .int v1)]) hx hb dX5_goOn_79 hl (k := 2) rfl rfl (by decide) rfl (fun ls hl9 => ?_)
  replace hl := hl9
  clear hl9
  refine lv_goto (tgt := 4) hx hb dX5_goOn_82 (by decide) ?_
  exact hJ4 v1 (v2 + 1) mc ms u _ _ _ _ _ h hW (lv_sub hl [1, 2, 0] rfl) hbc hbs
set_option maxHeartbeats 4000000 in
set_option maxRecDepth 100000 in
theorem t_X5_goOn_4 {p : Program} {l : Launch} {e : Env} {s : State} {m : MethodId} {below : List Frame} {meth : Method} {c : Code} {G : Ctx} (v0 : Nat) (MC MS : Nat) (F : Fx p l s m ([.ref v0]).toArray meth c cX5_goOn 5 RX5 G) (hr : meth.sig.returnType = (some .int)) (K : Int32 → Mem → Prop) : ∀ (n : Nat), ∀ (v1 : Int32) (v2 : Int32) (mc ms : Nat) (u : Mem) (H : Heap) (locs : List Loc) (cells slots : Nat) (ls : Array Slot), w_X5_goOn_4 G v0 K n v1 v2 mc ms u → Wd G u s H locs → lv_has ls 5 [(0, .ref v0), (1, .int v1), (2, .int v2)] → cells + mc = MC → slots + ms = MS → W p l e { frames := 9, cells := MC, slots := MS, locals := 239 } s m ([.ref v0]).toArray below meth c H locs cells slots (MQ below (va_Qi K (fun u' t => Wp G u' t.heap) (Ab G)) ([.ref v0]).toArray s MC MS (Ab G)) (F0 m 4 ls []) := by
  have hx := F.1.1
  have hb := F.1.2.1
  intro n
  induction n with
  | zero =>
    intro v1 v2 mc ms u H locs cells slots ls h hW hl hbc hbs
    exact h.elim
  | succ n hJ4 =>
    intro v1 v2 mc ms u H locs cells slots ls h hW hl hbc hbs
    have h : b_X5_goOn_4 G v0 K (w_X5_goOn_4 G v0 K n) v1 v2 mc ms u := h
    revert h
    generalize w_X5_goOn_4 G v0 K n = J4 at hJ4 ⊢
    intro h
    unfold b_X5_goOn_4 at h
    refine lv_iload_n hx hb dX5_goOn_4 rfl (lv_at hl 2 rfl) ?_
    refine lv_aload_n hx hb dX5_goOn_5 rfl (lv_at hl 0 rfl) ?_
    refine gf_6_2 F hW h.1 q_17 dX5_goOn_6 ?_
    replace h := h.2
    obtain ⟨r45, er⟩ : ∃ z, z = mR u 194 v0 := ⟨_, rfl⟩
    rw [← er]
    replace h := h r45 er
    clear er
    obtain ⟨a46, ea, h⟩ := h
    subst ea
    obtain ⟨hob, h⟩ := h
    refine cI (runV (n := 0) (As := []) (rest := [.int v2]) F hW (c_Jx4a65c_size_8abf5 F.2.2.2 G a46 u _ h) hob (ci := 0) rfl q_92 q_93 q_94 q_16 q_95 rfl (by decide +kernel) ⟨Nat.le_of_ble_eq_true rfl, Nat.le_of_ble_eq_true rfl⟩ dX5_goOn_9 rfl hl.1 (Nat.le_of_ble_eq_true rfl) ⟨Nat.le.intro hbc, Nat.le.intro hbs⟩) hW (fun r48 u47 h9 H locs hW => ?_)
    replace h := h9
    clear h9
    refine lv_icmp_ge (tgt := 85) hx hb dX5_goOn_12 (by decide) (fun hc49 => ?_) (fun hc49 => ?_)
    · have h := h.1 hc49
      refine lv_iload_n hx hb dX5_goOn_85 rfl (lv_at hl 1 rfl) ?_
      refine W.widen (k := MC) (n := MS) (Nat.le.intro hbc) (Nat.le.intro hbs) ?_
      exact retI F hr hW h dX5_goOn_86
    · have h := h.2 hc49
      refine lv_aload_n hx hb dX5_goOn_15 rfl (lv_at hl 0 rfl) ?_
      refine gf_6_2 F hW h.1 q_17 dX5_goOn_16 ?_
      replace h := h.2
      obtain ⟨r50, er⟩ : ∃ z, z = mR u47 194 v0 := ⟨_, rfl⟩
      rw [← er]
      replace h := h r50 er
      clear er
      refine lv_iload_n hx hb dX5_goOn_19 rfl (lv_at hl 2 rfl) ?_
      obtain ⟨a51, ea, h⟩ := h
      subst ea
      obtain ⟨hob, h⟩ := h
      refine cQ (runV (n := 1) (As := [.int v2]) (rest := []) F hW (c_Jx4a65c_get_915e3 F.2.2.2 G a51 v2 u47 _ h) hob (ci := 0) rfl q_215 q_216 q_217 q_16 q_218 rfl (by decide +kernel) ⟨Nat.le_of_ble_eq_true rfl, Nat.le_of_ble_eq_true rfl⟩ dX5_goOn_20 rfl hl.1 (Nat.le_of_ble_eq_true rfl) ⟨Nat.le.intro hbc, Nat.le.intro hbs⟩) hW (fun r53 u52 h9 H locs hW => ?_)
      replace h := h9
      clear h9
      obtain ⟨a54, ea, h⟩ := h
      subst ea
      refine rCast F hW h.1 (ci := 5) rfl q_214 dX5_goOn_23 ?_
      replace h := h.2
      refine lv_astore_n (lv' := [(3, .ref a54), (0, .ref v0), (1, .int v1), (2, .int v2)]) hx hb dX5_goOn_26 rfl hl (by decide) rfl (fun ls hl9 => ?_)
      replace hl := hl9
      clear hl9
      refine lv_aload_n hx hb dX5_goOn_27 rfl (lv_at hl 0 rfl) ?_
      refine gn_5_4 F hW h.1 (List.mem_of_getElem? (i := 11) rfl) dX5_goOn_28 ?_
      replace h := h.2
      obtain ⟨r55, er⟩ : ∃ z, z = mR u52 164 a54 := ⟨_, rfl⟩
      rw [← er]
      replace h := h r55 er
      clear er
      refine rSt (lv' := [(4, va_rf r55), (3, .ref a54), (0, .ref v0), (1, .int v1), (2, .int v2)]) F dX5_goOn_31 hl (by decide) rfl (fun ls hl9 => ?_)
      replace hl := hl9
      clear hl9
      refine rLd F dX5_goOn_33 (lv_at hl 0 rfl) ?_
      cases r55 with
      | none =>
        replace h := h.1 rfl
        refine lv_ifnullN (tgt := 79) hx hb dX5_goOn_35 (by decide) ?_
        exact t_X5_goOn_79 v0 MC MS F hr K J4 hJ4 v1 v2 mc ms u52 _ _ _ _ _ h hW (lv_sub hl [2, 3, 4] rfl) hbc hbs
      | some a56 =>
        replace h := h.2 a56 rfl
        refine lv_ifnull hx hb dX5_goOn_35 ?_
        refine lv_aload_n hx hb dX5_goOn_38 rfl (lv_at hl 1 rfl) ?_
        refine gn_5_3 F hW h.1 (List.mem_of_getElem? (i := 10) rfl) dX5_goOn_39 ?_
        replace h := h.2
        refine lv_iconst (v := (3 : Int32)) hx hb dX5_goOn_42 (by decide) ?_
        refine lv_icmp_eq (tgt := 79) hx hb dX5_goOn_43 (by decide) (fun hc57 => ?_) (fun hc57 => ?_)
        · have h := h.1 hc57
          exact t_X5_goOn_79 v0 MC MS F hr K J4 hJ4 v1 v2 mc ms u52 _ _ _ _ _ h hW (lv_sub hl [2, 3, 4] rfl) hbc hbs
        · have h := h.2 hc57
          refine lv_aload_n hx hb dX5_goOn_46 rfl (lv_at hl 1 rfl) ?_
          refine lv_aload hx hb dX5_goOn_47 (lv_at hl 0 rfl) ?_
          refine cV (runS (n := 2) (As := [.ref a54, .ref a56]) (rest := []) F hW (c_X5_move F.2.2.2 G a54 a56 u52 _ h) q_289 q_290 q_2 q_291 (by decide +kernel) ⟨Nat.le_of_ble_eq_true rfl, Nat.le_of_ble_eq_true rfl⟩ dX5_goOn_49 rfl hl.1 (Nat.le_of_ble_eq_true rfl) ⟨Nat.le.intro hbc, Nat.le.intro hbs⟩) hW (fun u58 h9 H locs hW => ?_)
          replace h := h9
          clear h9
          refine lv_aload_n hx hb dX5_goOn_52 rfl (lv_at hl 1 rfl) ?_
          refine gn_5_3 F hW h.1 (List.mem_of_getElem? (i := 10) rfl) dX5_goOn_53 ?_
          replace h := h.2
          refine lv_iconst (v := (2 : Int32)) hx hb dX5_goOn_56 (by decide) ?_
          refine lv_icmp_ne (tgt := 79) hx hb dX5_goOn_57 (by decide) (fun hc60 => ?_) (fun hc60 => ?_)
          · have h := h.2 hc60
            exact t_X5_goOn_79 v0 MC MS F hr K J4 hJ4 v1 v2 mc ms u58 _ _ _ _ _ h hW (lv_sub hl [2, 3, 4] rfl) hbc hbs
          · have h := h.1 hc60
            refine lv_aload_n hx hb dX5_goOn_60 rfl (lv_at hl 2 rfl) ?_
            refine lv_aload_n hx hb dX5_goOn_61 rfl (lv_at hl 1 rfl) ?_
            refine lv_aload hx hb dX5_goOn_62 (lv_at hl 0 rfl) ?_
            refine gn_2_1 F hW h.1 (List.mem_of_getElem? (i := 4) rfl) dX5_goOn_64 ?_
            replace h := h.2
            obtain ⟨c63, b64, h1, h2, h⟩ := h
            have hf1 := bdf hbc h1
            have hf2 := bdf hbs h2
            obtain ⟨hob, h⟩ := h
            refine cV (runV (n := 2) (As := [.ref a54, .int (mI u58 65 a56)]) (rest := []) F hW (c_X5_see F.2.2.2 G v0 a54 (mI u58 65 a56) c63 b64 u58 _ h) hob (ci := 6) rfl q_295 q_296 q_297 q_2 q_298 rfl (by decide +kernel) ⟨Nat.le_of_ble_eq_true rfl, Nat.le_of_ble_eq_true rfl⟩ dX5_goOn_67 rfl hl.1 (Nat.le_of_ble_eq_true rfl) ⟨hf1, hf2⟩) hW (fun u61 h9 H locs hW => ?_)
            replace h := h9
            clear h9
            replace hbc := bdg hbc h1
            replace hbs := bdg hbs h2
            clear h1 h2 hf1 hf2
            refine lv_iload_n hx hb dX5_goOn_70 rfl (lv_at hl 3 rfl) ?_
            refine lv_aload_n hx hb dX5_goOn_71 rfl (lv_at hl 1 rfl) ?_
            refine lv_aload hx hb dX5_goOn_72 (lv_at hl 0 rfl) ?_
            refine cI (runS (n := 2) (As := [.ref a54, .ref a56]) (rest := [.int v1]) F hW (c_X5_endIfThere F.2.2.2 G a54 a56 u61 _ h) q_323 q_324 q_2 q_325 (by decide +kernel) ⟨Nat.le_of_ble_eq_true rfl, Nat.le_of_ble_eq_true rfl⟩ dX5_goOn_74 rfl hl.1 (Nat.le_of_ble_eq_true rfl) ⟨Nat.le.intro hbc, Nat.le.intro hbs⟩) hW (fun r66 u65 h9 H locs hW => ?_)
            replace h := h9
            clear h9
            refine lv_iadd hx hb dX5_goOn_77 ?_
            refine lv_istore_n (lv' := [(1, .int (v1 + r66)), (4, .ref a56), (3, .ref a54), (0, .ref v0), (2, .int v2)]) hx hb dX5_goOn_78 rfl hl (by decide) rfl (fun ls hl9 => ?_)
            replace hl := hl9
            clear hl9
            exact t_X5_goOn_79 v0 MC MS F hr K J4 hJ4 (v1 + r66) v2 (mc - c63) (ms - b64) u65 _ _ _ _ _ h hW (lv_sub hl [3, 0, 4] rfl) hbc hbs
set_option maxHeartbeats 4000000 in
set_option maxRecDepth 100000 in
theorem c_X5_goOn {l : Launch} (hst : l.stackTraces = false) (G : Ctx) (v0 : Nat) (MC MS : Nat) (u : Mem) (K : Int32 → Mem → Prop) (h : w_X5_goOn G v0 MC MS u K) : CtI l yX5_goOn (.code yX5_goOn cX5_goOn 5 (some .int)) 9 239 MC MS G [.ref v0] u K := by
  refine entM (by first | decide | decide +kernel) hst (by first | decide | exact Nat.le_of_ble_eq_true rfl) (fun p e s m below meth c ls F hr hnm hW hl => ?_)
  have F : Fx p l s m ([.ref v0]).toArray meth c cX5_goOn 5 RX5 G := F
  have hnm : meth.name = "goOn" := hnm
  have hl : lv_has ls 5 [(0, .ref v0)] := hl
  have hx := F.1.1
  have hb := F.1.2.1
  have hbc : 0 + MC = MC := Nat.zero_add _
  have hbs : 0 + MS = MS := Nat.zero_add _
  unfold w_X5_goOn at h
  refine lv_iconst (v := (0 : Int32)) hx hb dX5_goOn_0 (by decide) ?_
  refine lv_istore_n (lv' := [(1, .int (0 : Int32)), (0, .ref v0)]) hx hb dX5_goOn_1 rfl hl (by decide) rfl (fun ls hl9 => ?_)
  replace hl := hl9
  clear hl9
  refine lv_iconst (v := (0 : Int32)) hx hb dX5_goOn_2 (by decide) ?_
  refine lv_istore_n (lv' := [(2, .int (0 : Int32)), (1, .int (0 : Int32)), (0, .ref v0)]) hx hb dX5_goOn_3 rfl hl (by decide) rfl (fun ls hl9 => ?_)
  replace hl := hl9
  clear hl9
  obtain ⟨n, h⟩ := h
  exact t_X5_goOn_4 v0 MC MS F hr K n (0 : Int32) (0 : Int32) MC MS u _ _ _ _ _ h hW (lv_sub hl [2, 1, 0] rfl) hbc hbs
set_option maxHeartbeats 4000000 in
set_option maxRecDepth 100000 in
theorem t_X5_init_85 {p : Program} {l : Launch} {e : Env} {s : State} {m : MethodId} {below : List Frame} {meth : Method} {c : Code} {G : Ctx} (v0 : Nat) (MC MS : Nat) (F : Fx p l s m ([.ref v0]).toArray meth c cX5_init 2 RX5 G) (hr : meth.sig.returnType = none) (hnm : meth.name = "<init>") (K : Mem → Prop) : ∀ (n : Nat), ∀ (v1 : Int32) (mc ms : Nat) (u : Mem) (H : Heap) (locs : List Loc) (cells slots : Nat) (ls : Array Slot), w_X5_init_85 G v0 K n v1 mc ms u → Wd G u s H locs → lv_has ls 2 [(0, .ref v0), (1, .int v1)] → cells + mc = MC → slots + ms = MS → W p l e { frames := 5, cells := MC, slots := MS, locals := 110 } s m ([.ref v0]).toArray below meth c H locs cells slots (MQ below (va_Qv K (fun u' t => Wp G u' t.heap) (Ab G)) ([.ref v0]).toArray s MC MS (Ab G)) (F0 m 85 ls []) := by
  have hx := F.1.1
  have hb := F.1.2.1
  intro n
  induction n with
  | zero =>
    intro v1 mc ms u H locs cells slots ls h hW hl hbc hbs
    exact h.elim
  | succ n hJ85 =>
    intro v1 mc ms u H locs cells slots ls h hW hl hbc hbs
    have h : b_X5_init_85 G v0 K (w_X5_init_85 G v0 K n) v1 mc ms u := h
    revert h
    generalize w_X5_init_85 G v0 K n = J85 at hJ85 ⊢
    intro h
    unfold b_X5_init_85 at h
    refine lv_iload_n hx hb dX5_init_85 rfl (lv_at hl 1 rfl) ?_
    refine lv_aload_n hx hb dX5_init_86 rfl (lv_at hl 0 rfl) ?_
    refine gf_6_1 F hW h.1 q_13 dX5_init_87 ?_
    replace h := h.2
    obtain ⟨r65, er⟩ : ∃ z, z = mR u 193 v0 := ⟨_, rfl⟩
    rw [← er]
    replace h := h r65 er
    clear er
    obtain ⟨a66, ea, h⟩ := h
    subst ea
    refine rLen_12 F hW h.1 dX5_init_90 ?_
    replace h := h.2
    refine lv_icmp_ge (tgt := 114) hx hb dX5_init_91 (by decide) (fun hc67 => ?_) (fun hc67 => ?_)
    · have h := h.1 hc67
      refine W.widen (k := MC) (n := MS) (Nat.le.intro hbc) (Nat.le.intro hbs) ?_
      exact retV F hr hW h dX5_init_114
    · have h := h.2 hc67
      refine lv_aload_n hx hb dX5_init_94 rfl (lv_at hl 0 rfl) ?_
      refine gf_6_1 F hW h.1 q_13 dX5_init_95 ?_
      replace h := h.2
      obtain ⟨r68, er⟩ : ∃ z, z = mR u 193 v0 := ⟨_, rfl⟩
      rw [← er]
      replace h := h r68 er
      clear er
      refine lv_iload_n hx hb dX5_init_98 rfl (lv_at hl 1 rfl) ?_
      obtain ⟨h1, h2, h⟩ := h
      refine nw_2 (R := ⟨5, MC, MS, 110⟩) F hW q_12 q_26 q_27 hbc hbs h1 h2 dX5_init_99 (fun q69 H hq hW => ?_)
      replace h := h q69 hq
      replace hbc := bdg hbc h1
      replace hbs := bdg hbs h2
      clear h1 h2
      obtain ⟨u70, eu⟩ : ∃ z, z = mNew u q69 2 0 := ⟨_, rfl⟩
      rw [← eu] at hW
      replace h := h u70 eu
      clear eu
      refine lv_dup hx hb dX5_init_102 rfl ?_
      refine lv_iload_n hx hb dX5_init_103 rfl (lv_at hl 1 rfl) ?_
      refine cV (runI (n := 1) (As := [.int v1]) (rest := [.ref q69, .int v1, va_rf r68]) F hW (c_X1_init F.2.2.2 G q69 v1 u70 _ h) q_58 q_59 q_27 q_60 rfl (by decide +kernel) ⟨Nat.le_of_ble_eq_true rfl, Nat.le_of_ble_eq_true rfl⟩ dX5_init_104 rfl hl.1 (by simp only [List.map_cons, List.map_nil, va_rf_cat]; exact Nat.le_of_ble_eq_true rfl) ⟨Nat.le.intro hbc, Nat.le.intro hbs⟩) hW (fun u71 h9 H locs hW => ?_)
      replace h := h9
      clear h9
      obtain ⟨a73, ea, h⟩ := h
      subst ea
      refine rQast_12 F hW h.1 h.2.1 h.2.2.1 dX5_init_107 (fun H locs hW => ?_)
      replace h := h.2.2.2
      obtain ⟨u74, eu⟩ : ∃ z, z = setB u71 a73 (v1.toNatClampNeg) (some q69) := ⟨_, rfl⟩
      rw [← eu] at hW
      replace h := h u74 eu
      clear eu
      refine lv_iinc (v := (v1 + 1)) (lv' := [(1, .int (v1 + 1)), (0, .ref v0)]) hx hb dX5_init_108 hl (k := 1) rfl rfl (by decide) rfl (fun ls hl9 => ?_)
      replace hl := hl9
      clear hl9
      refine lv_goto (tgt := 85) hx hb dX5_init_111 (by decide) ?_
      exact hJ85 (v1 + 1) (mc - 1) (ms - 4) u74 _ _ _ _ _ h hW (lv_sub hl [1, 0] rfl) hbc hbs
set_option maxHeartbeats 4000000 in
set_option maxRecDepth 100000 in
theorem t_X5_init_55 {p : Program} {l : Launch} {e : Env} {s : State} {m : MethodId} {below : List Frame} {meth : Method} {c : Code} {G : Ctx} (v0 : Nat) (MC MS : Nat) (F : Fx p l s m ([.ref v0]).toArray meth c cX5_init 2 RX5 G) (hr : meth.sig.returnType = none) (hnm : meth.name = "<init>") (K : Mem → Prop) : ∀ (n : Nat), ∀ (v1 : Int32) (mc ms : Nat) (u : Mem) (H : Heap) (locs : List Loc) (cells slots : Nat) (ls : Array Slot), w_X5_init_55 G v0 K n v1 mc ms u → Wd G u s H locs → lv_has ls 2 [(0, .ref v0), (1, .int v1)] → cells + mc = MC → slots + ms = MS → W p l e { frames := 5, cells := MC, slots := MS, locals := 110 } s m ([.ref v0]).toArray below meth c H locs cells slots (MQ below (va_Qv K (fun u' t => Wp G u' t.heap) (Ab G)) ([.ref v0]).toArray s MC MS (Ab G)) (F0 m 55 ls []) := by
  have hx := F.1.1
  have hb := F.1.2.1
  intro n
  induction n with
  | zero =>
    intro v1 mc ms u H locs cells slots ls h hW hl hbc hbs
    exact h.elim
  | succ n hJ55 =>
    intro v1 mc ms u H locs cells slots ls h hW hl hbc hbs
    have h : b_X5_init_55 G v0 K (w_X5_init_55 G v0 K n) v1 mc ms u := h
    revert h
    generalize w_X5_init_55 G v0 K n = J55 at hJ55 ⊢
    intro h
    unfold b_X5_init_55 at h
    refine lv_iload_n hx hb dX5_init_55 rfl (lv_at hl 1 rfl) ?_
    refine lv_aload_n hx hb dX5_init_56 rfl (lv_at hl 0 rfl) ?_
    refine gf_6_0 F hW h.1 q_11 dX5_init_57 ?_
    replace h := h.2
    obtain ⟨r75, er⟩ : ∃ z, z = mR u 192 v0 := ⟨_, rfl⟩
    rw [← er]
    replace h := h r75 er
    clear er
    obtain ⟨a76, ea, h⟩ := h
    subst ea
    refine rLen_11 F hW h.1 dX5_init_60 ?_
    replace h := h.2
    refine lv_icmp_ge (tgt := 83) hx hb dX5_init_61 (by decide) (fun hc77 => ?_) (fun hc77 => ?_)
    · have h := h.1 hc77
      refine lv_iconst (v := (0 : Int32)) hx hb dX5_init_83 (by decide) ?_
      refine lv_istore_n (lv' := [(1, .int (0 : Int32)), (0, .ref v0)]) hx hb dX5_init_84 rfl hl (by decide) rfl (fun ls hl9 => ?_)
      replace hl := hl9
      clear hl9
      obtain ⟨n, h⟩ := h
      exact t_X5_init_85 v0 MC MS F hr hnm K n (0 : Int32) mc ms u _ _ _ _ _ h hW (lv_sub hl [1, 0] rfl) hbc hbs
    · have h := h.2 hc77
      refine lv_aload_n hx hb dX5_init_64 rfl (lv_at hl 0 rfl) ?_
      refine gf_6_0 F hW h.1 q_11 dX5_init_65 ?_
      replace h := h.2
      obtain ⟨r78, er⟩ : ∃ z, z = mR u 192 v0 := ⟨_, rfl⟩
      rw [← er]
      replace h := h r78 er
      clear er
      refine lv_iload_n hx hb dX5_init_68 rfl (lv_at hl 1 rfl) ?_
      obtain ⟨h1, h2, h⟩ := h
      refine nw_4 (R := ⟨5, MC, MS, 110⟩) F hW q_10 q_24 q_25 hbc hbs h1 h2 dX5_init_69 (fun q79 H hq hW => ?_)
      replace h := h q79 hq
      replace hbc := bdg hbc h1
      replace hbs := bdg hbs h2
      clear h1 h2
      obtain ⟨u80, eu⟩ : ∃ z, z = mNew u q79 4 0 := ⟨_, rfl⟩
      rw [← eu] at hW
      replace h := h u80 eu
      clear eu
      refine lv_dup hx hb dX5_init_72 rfl ?_
      obtain ⟨c83, b84, h1, h2, h⟩ := h
      have hf1 := bdf hbc h1
      have hf2 := bdf hbs h2
      refine cV (runI (n := 0) (As := []) (rest := [.ref q79, .int v1, va_rf r78]) F hW (c_X3_init F.2.2.2 G q79 c83 b84 u80 _ h) q_50 q_51 q_25 q_52 rfl (by decide +kernel) ⟨Nat.le_of_ble_eq_true rfl, Nat.le_of_ble_eq_true rfl⟩ dX5_init_73 rfl hl.1 (by simp only [List.map_cons, List.map_nil, va_rf_cat]; exact Nat.le_of_ble_eq_true rfl) ⟨hf1, hf2⟩) hW (fun u81 h9 H locs hW => ?_)
      replace h := h9
      clear h9
      replace hbc := bdg hbc h1
      replace hbs := bdg hbs h2
      clear h1 h2 hf1 hf2
      obtain ⟨a85, ea, h⟩ := h
      subst ea
      refine rQast_11 F hW h.1 h.2.1 h.2.2.1 dX5_init_76 (fun H locs hW => ?_)
      replace h := h.2.2.2
      obtain ⟨u86, eu⟩ : ∃ z, z = setB u81 a85 (v1.toNatClampNeg) (some q79) := ⟨_, rfl⟩
      rw [← eu] at hW
      replace h := h u86 eu
      clear eu
      refine lv_iinc (v := (v1 + 1)) (lv' := [(1, .int (v1 + 1)), (0, .ref v0)]) hx hb dX5_init_77 hl (k := 1) rfl rfl (by decide) rfl (fun ls hl9 => ?_)
      replace hl := hl9
      clear hl9
      refine lv_goto (tgt := 55) hx hb dX5_init_80 (by decide) ?_
      exact hJ55 (v1 + 1) ((mc - 1) - c83) ((ms - 4) - b84) u86 _ _ _ _ _ h hW (lv_sub hl [1, 0] rfl) hbc hbs
set_option maxHeartbeats 4000000 in
set_option maxRecDepth 100000 in
theorem c_X5_init {l : Launch} (hst : l.stackTraces = false) (G : Ctx) (v0 : Nat) (MC MS : Nat) (u : Mem) (K : Mem → Prop) (h : w_X5_init G v0 MC MS u K) : CtV l yX5_init (.code yX5_init cX5_init 2 none) 5 110 MC MS G [.ref v0] u K := by
  refine entM (by first | decide | decide +kernel) hst (by first | decide | exact Nat.le_of_ble_eq_true rfl) (fun p e s m below meth c ls F hr hnm hW hl => ?_)
  have F : Fx p l s m ([.ref v0]).toArray meth c cX5_init 2 RX5 G := F
  have hnm : meth.name = "<init>" := hnm
  have hl : lv_has ls 2 [(0, .ref v0)] := hl
  have hx := F.1.1
  have hb := F.1.2.1
  have hbc : 0 + MC = MC := Nat.zero_add _
  have hbs : 0 + MS = MS := Nat.zero_add _
  unfold w_X5_init at h
  refine lv_aload_n hx hb dX5_init_0 rfl (lv_at hl 0 rfl) ?_
  refine W.objInit hx hb F.1.2.2.2.1 (F.1.2.2.2.2 _ q_7) (F.1.2.2.2.2 _ q_8) (F.1.2.2.2.2 _ q_9) rfl (by rw [F.1.2.2.1]; exact hl.1) rfl dX5_init_1 (Nat.le_of_ble_eq_true rfl) (Nat.le_of_ble_eq_true rfl) ?_
  refine W.eq (g2 := F0 m 4 ls []) rfl ?_
  refine lv_aload_n hx hb dX5_init_4 rfl (lv_at hl 0 rfl) ?_
  refine lv_bipush (v := (8 : Int32)) hx hb dX5_init_5 (by decide) ?_
  obtain ⟨h1, h2, h⟩ := h
  refine rNewQ_11 (N := 8) (R := ⟨5, MC, MS, 110⟩) F hW q_10 hbc hbs h1 h2 (by decide) dX5_init_7 (fun q1 H hq hW => ?_)
  replace h := h q1 hq
  replace hbc := bdg hbc h1
  replace hbs := bdg hbs h2
  clear h1 h2
  obtain ⟨u2, eu⟩ : ∃ z, z = mNew u q1 11 8 := ⟨_, rfl⟩
  rw [← eu] at hW
  replace h := h u2 eu
  clear eu
  refine pf_6_0 F hW hnm (x := (some q1)) h.1 q_11 dX5_init_10 (fun H locs hW => ?_)
  replace h := h.2
  obtain ⟨u3, eu⟩ : ∃ z, z = setR u2 192 v0 (some q1) := ⟨_, rfl⟩
  rw [← eu] at hW
  replace h := h u3 eu
  clear eu
  refine lv_aload_n hx hb dX5_init_13 rfl (lv_at hl 0 rfl) ?_
  refine lv_iconst (v := (4 : Int32)) hx hb dX5_init_14 (by decide) ?_
  obtain ⟨h1, h2, h⟩ := h
  refine rNewQ_12 (N := 4) (R := ⟨5, MC, MS, 110⟩) F hW q_12 hbc hbs h1 h2 (by decide) dX5_init_15 (fun q4 H hq hW => ?_)
  replace h := h q4 hq
  replace hbc := bdg hbc h1
  replace hbs := bdg hbs h2
  clear h1 h2
  obtain ⟨u5, eu⟩ : ∃ z, z = mNew u3 q4 12 4 := ⟨_, rfl⟩
  rw [← eu] at hW
  replace h := h u5 eu
  clear eu
  refine pf_6_1 F hW hnm (x := (some q4)) h.1 q_13 dX5_init_18 (fun H locs hW => ?_)
  replace h := h.2
  obtain ⟨u6, eu⟩ : ∃ z, z = setR u5 193 v0 (some q4) := ⟨_, rfl⟩
  rw [← eu] at hW
  replace h := h u6 eu
  clear eu
  refine lv_aload_n hx hb dX5_init_21 rfl (lv_at hl 0 rfl) ?_
  obtain ⟨h1, h2, h⟩ := h
  refine nw_0 (R := ⟨5, MC, MS, 110⟩) F hW q_14 q_15 q_16 hbc hbs h1 h2 dX5_init_22 (fun q7 H hq hW => ?_)
  replace h := h q7 hq
  replace hbc := bdg hbc h1
  replace hbs := bdg hbs h2
  clear h1 h2
  obtain ⟨u8, eu⟩ : ∃ z, z = mNew u6 q7 0 0 := ⟨_, rfl⟩
  rw [← eu] at hW
  replace h := h u8 eu
  clear eu
  refine lv_dup hx hb dX5_init_25 rfl ?_
  refine cV (runI (n := 0) (As := []) (rest := [.ref q7, .ref v0]) F hW (c_Jx4a65c_init_da8c8 F.2.2.2 G q7 u8 _ h) q_28 q_29 q_16 q_30 rfl (by decide +kernel) ⟨Nat.le_of_ble_eq_true rfl, Nat.le_of_ble_eq_true rfl⟩ dX5_init_26 rfl hl.1 (Nat.le_of_ble_eq_true rfl) ⟨Nat.le.intro hbc, Nat.le.intro hbs⟩) hW (fun u9 h9 H locs hW => ?_)
  replace h := h9
  clear h9
  refine pf_6_2 F hW hnm (x := (some q7)) h.1 q_17 dX5_init_29 (fun H locs hW => ?_)
  replace h := h.2
  obtain ⟨u11, eu⟩ : ∃ z, z = setR u9 194 v0 (some q7) := ⟨_, rfl⟩
  rw [← eu] at hW
  replace h := h u11 eu
  clear eu
  refine lv_aload_n hx hb dX5_init_32 rfl (lv_at hl 0 rfl) ?_
  obtain ⟨h1, h2, h⟩ := h
  refine nw_1 (R := ⟨5, MC, MS, 110⟩) F hW q_18 q_19 q_20 hbc hbs h1 h2 dX5_init_33 (fun q12 H hq hW => ?_)
  replace h := h q12 hq
  replace hbc := bdg hbc h1
  replace hbs := bdg hbs h2
  clear h1 h2
  obtain ⟨u13, eu⟩ : ∃ z, z = mNew u11 q12 1 0 := ⟨_, rfl⟩
  rw [← eu] at hW
  replace h := h u13 eu
  clear eu
  refine lv_dup hx hb dX5_init_36 rfl ?_
  obtain ⟨c16, b17, h1, h2, h⟩ := h
  have hf1 := bdf hbc h1
  have hf2 := bdf hbs h2
  refine cV (runIN (n := 0) (As := []) (rest := [.ref q12, .ref v0]) F hW (c_X0_init F.2.2.2 G q12 c16 b17 u13 _ h) (List.mem_of_getElem? (i := 0) rfl) q_43 q_20 q_44 rfl (by decide +kernel) ⟨Nat.le_of_ble_eq_true rfl, Nat.le_of_ble_eq_true rfl⟩ dX5_init_37 rfl hl.1 (Nat.le_of_ble_eq_true rfl) ⟨hf1, hf2⟩) hW (fun u14 h9 H locs hW => ?_)
  replace h := h9
  clear h9
  replace hbc := bdg hbc h1
  replace hbs := bdg hbs h2
  clear h1 h2 hf1 hf2
  refine pf_6_3 F hW hnm (x := (some q12)) h.1 q_21 dX5_init_40 (fun H locs hW => ?_)
  replace h := h.2
  obtain ⟨u18, eu⟩ : ∃ z, z = setR u14 195 v0 (some q12) := ⟨_, rfl⟩
  rw [← eu] at hW
  replace h := h u18 eu
  clear eu
  refine lv_aload_n hx hb dX5_init_43 rfl (lv_at hl 0 rfl) ?_
  refine lv_iconst (v := (0 : Int32)) hx hb dX5_init_44 (by decide) ?_
  refine pf_6_4 F hW (x := (0 : Int32)) h.1 q_22 dX5_init_45 (fun H locs hW => ?_)
  replace h := h.2
  obtain ⟨u19, eu⟩ : ∃ z, z = setI u18 196 v0 (0 : Int32) := ⟨_, rfl⟩
  rw [← eu] at hW
  replace h := h u19 eu
  clear eu
  refine lv_aload_n hx hb dX5_init_48 rfl (lv_at hl 0 rfl) ?_
  refine lv_iconst (v := (0 : Int32)) hx hb dX5_init_49 (by decide) ?_
  refine pf_6_5 F hW (x := (0 : Int32)) h.1 q_23 dX5_init_50 (fun H locs hW => ?_)
  replace h := h.2
  obtain ⟨u20, eu⟩ : ∃ z, z = setI u19 197 v0 (0 : Int32) := ⟨_, rfl⟩
  rw [← eu] at hW
  replace h := h u20 eu
  clear eu
  refine lv_iconst (v := (0 : Int32)) hx hb dX5_init_53 (by decide) ?_
  refine lv_istore_n (lv' := [(1, .int (0 : Int32)), (0, .ref v0)]) hx hb dX5_init_54 rfl hl (by decide) rfl (fun ls hl9 => ?_)
  replace hl := hl9
  clear hl9
  obtain ⟨n, h⟩ := h
  exact t_X5_init_55 v0 MC MS F hr hnm K n (0 : Int32) (((((MC - 1) - 1) - 1) - 1) - c16) (((((MS - 8) - 4) - 3) - 2) - b17) u20 _ _ _ _ _ h hW (lv_sub hl [1, 0] rfl) hbc hbs
set_option maxHeartbeats 4000000 in
set_option maxRecDepth 100000 in
theorem t_X5_pass_11 {p : Program} {l : Launch} {e : Env} {s : State} {m : MethodId} {below : List Frame} {meth : Method} {c : Code} {G : Ctx} (v0 : Nat) (v1 : Int32) (MC MS : Nat) (F : Fx p l s m ([.ref v0, .int v1]).toArray meth c cX5_pass 4 RX5 G) (hr : meth.sig.returnType = (some .int)) (hout : ∀ x ∈ c.exceptionTable.toList, False) (K : Int32 → Mem → Prop) (X : String → Mem → Prop) : ∀ (mc ms : Nat) (u : Mem) (H : Heap) (locs : List Loc) (cells slots : Nat) (ls : Array Slot), w_X5_pass_11 G v0 v1 K X mc ms u → Wd G u s H locs → lv_has ls 4 [(0, .ref v0), (1, .int v1)] → cells + mc = MC → slots + ms = MS → W p l e { frames := 10, cells := MC, slots := MS, locals := 263 } s m ([.ref v0, .int v1]).toArray below meth c H locs cells slots (vx_MQ below (va_Qi K (fun u' t => Wp G u' t.heap) (Ab G)) (XCt G X) ([.ref v0, .int v1]).toArray s MC MS (Ab G)) (F0 m 11 ls []) := by
  have hx := F.1.1
  have hb := F.1.2.1
  intro mc ms u H locs cells slots ls h hW hl hbc hbs
  unfold w_X5_pass_11 at h
  have h1 := h.1
  have h6 := h.2.1
  have hc1 := bdf hbc h1
  have hs1 := bdf hbs h6
  exact rThrow F hW (cls := "java/lang/IllegalArgumentException") (by decide) q_82 q_83 (List.mem_of_getElem? (i := 3) rfl) (xa_1 F) xg_1 hl.1 dX5_pass_11 dX5_pass_14 dX5_pass_15 dX5_pass_17 dX5_pass_20 hout (Nat.le_of_ble_eq_true rfl) (Nat.le_of_ble_eq_true rfl) hc1 hs1 h.2.2 hc1 hs1
set_option maxHeartbeats 4000000 in
set_option maxRecDepth 100000 in
theorem t_X5_pass_47 {p : Program} {l : Launch} {e : Env} {s : State} {m : MethodId} {below : List Frame} {meth : Method} {c : Code} {G : Ctx} (v0 : Nat) (v1 : Int32) (MC MS : Nat) (F : Fx p l s m ([.ref v0, .int v1]).toArray meth c cX5_pass 4 RX5 G) (hr : meth.sig.returnType = (some .int)) (hout : ∀ x ∈ c.exceptionTable.toList, False) (K : Int32 → Mem → Prop) (X : String → Mem → Prop) : ∀ (n : Nat), ∀ (v2 : Int32) (v3 : Int32) (mc ms : Nat) (u : Mem) (H : Heap) (locs : List Loc) (cells slots : Nat) (ls : Array Slot), w_X5_pass_47 G v0 v1 K X n v2 v3 mc ms u → Wd G u s H locs → lv_has ls 4 [(0, .ref v0), (1, .int v1), (2, .int v2), (3, .int v3)] → cells + mc = MC → slots + ms = MS → W p l e { frames := 10, cells := MC, slots := MS, locals := 263 } s m ([.ref v0, .int v1]).toArray below meth c H locs cells slots (vx_MQ below (va_Qi K (fun u' t => Wp G u' t.heap) (Ab G)) (XCt G X) ([.ref v0, .int v1]).toArray s MC MS (Ab G)) (F0 m 47 ls []) := by
  have hx := F.1.1
  have hb := F.1.2.1
  intro n
  induction n with
  | zero =>
    intro v2 v3 mc ms u H locs cells slots ls h hW hl hbc hbs
    exact h.elim
  | succ n hJ47 =>
    intro v2 v3 mc ms u H locs cells slots ls h hW hl hbc hbs
    have h : b_X5_pass_47 G v0 v1 K X (w_X5_pass_47 G v0 v1 K X n) v2 v3 mc ms u := h
    revert h
    generalize w_X5_pass_47 G v0 v1 K X n = J47 at hJ47 ⊢
    intro h
    unfold b_X5_pass_47 at h
    refine lv_iload_n hx hb dX5_pass_47 rfl (lv_at hl 3 rfl) ?_
    refine lv_iload_n hx hb dX5_pass_48 rfl (lv_at hl 1 rfl) ?_
    refine lv_icmp_ge (tgt := 69) hx hb dX5_pass_49 (by decide) (fun hc20 => ?_) (fun hc20 => ?_)
    · have h := h.1 hc20
      refine lv_aload_n hx hb dX5_pass_69 rfl (lv_at hl 0 rfl) ?_
      refine lv_dup hx hb dX5_pass_70 rfl ?_
      refine gf_6_5 F hW h.1 q_23 dX5_pass_71 ?_
      replace h := h.2
      refine lv_iload_n hx hb dX5_pass_74 rfl (lv_at hl 1 rfl) ?_
      refine lv_iadd hx hb dX5_pass_75 ?_
      refine pf_6_5 F hW (x := ((mI u 197 v0) + v1)) h.1 q_23 dX5_pass_76 (fun H locs hW => ?_)
      replace h := h.2
      obtain ⟨u21, eu⟩ : ∃ z, z = setI u 197 v0 ((mI u 197 v0) + v1) := ⟨_, rfl⟩
      rw [← eu] at hW
      replace h := h u21 eu
      clear eu
      refine lv_iload_n hx hb dX5_pass_79 rfl (lv_at hl 2 rfl) ?_
      refine W.widen (k := MC) (n := MS) (Nat.le.intro hbc) (Nat.le.intro hbs) ?_
      exact vx_ret (retI F hr hW h dX5_pass_80)
    · have h := h.2 hc20
      refine lv_aload_n hx hb dX5_pass_52 rfl (lv_at hl 0 rfl) ?_
      obtain ⟨hob, h⟩ := h
      refine cV (runV (n := 0) (As := []) (rest := []) F hW (c_X5_giveEscorts F.2.2.2 G v0 u _ h) hob (ci := 6) rfl q_264 q_265 q_266 q_2 q_267 rfl (by decide +kernel) ⟨Nat.le_of_ble_eq_true rfl, Nat.le_of_ble_eq_true rfl⟩ dX5_pass_53 rfl hl.1 (Nat.le_of_ble_eq_true rfl) ⟨Nat.le.intro hbc, Nat.le.intro hbs⟩) hW (fun u22 h9 H locs hW => ?_)
      replace h := h9
      clear h9
      refine lv_iload_n hx hb dX5_pass_56 rfl (lv_at hl 2 rfl) ?_
      refine lv_aload_n hx hb dX5_pass_57 rfl (lv_at hl 0 rfl) ?_
      obtain ⟨c26, b27, h1, h2, h⟩ := h
      have hf1 := bdf hbc h1
      have hf2 := bdf hbs h2
      obtain ⟨hob, h⟩ := h
      refine cI (runV (n := 0) (As := []) (rest := [.int v2]) F hW (c_X5_goOn F.2.2.2 G v0 c26 b27 u22 _ h) hob (ci := 6) rfl q_285 q_286 q_287 q_2 q_288 rfl (by decide +kernel) ⟨Nat.le_of_ble_eq_true rfl, Nat.le_of_ble_eq_true rfl⟩ dX5_pass_58 rfl hl.1 (Nat.le_of_ble_eq_true rfl) ⟨hf1, hf2⟩) hW (fun r25 u24 h9 H locs hW => ?_)
      replace h := h9
      clear h9
      replace hbc := bdg hbc h1
      replace hbs := bdg hbs h2
      clear h1 h2 hf1 hf2
      refine lv_iadd hx hb dX5_pass_61 ?_
      refine lv_istore_n (lv' := [(2, .int (v2 + r25)), (0, .ref v0), (1, .int v1), (3, .int v3)]) hx hb dX5_pass_62 rfl hl (by decide) rfl (fun ls hl9 => ?_)
      replace hl := hl9
      clear hl9
      refine lv_iinc (v := (v3 + 1)) (lv' := [(3, .int (v3 + 1)), (2, .int (v2 + r25)), (0, .ref v0), (1, .int v1)]) hx hb dX5_pass_63 hl (k := 3) rfl rfl (by decide) rfl (fun ls hl9 => ?_)
      replace hl := hl9
      clear hl9
      refine lv_goto (tgt := 47) hx hb dX5_pass_66 (by decide) ?_
      exact hJ47 (v2 + r25) (v3 + 1) (mc - c26) (ms - b27) u24 _ _ _ _ _ h hW (lv_sub hl [2, 3, 1, 0] rfl) hbc hbs
set_option maxHeartbeats 4000000 in
set_option maxRecDepth 100000 in
theorem c_X5_pass {l : Launch} (hst : l.stackTraces = false) (G : Ctx) (v0 : Nat) (v1 : Int32) (MC MS : Nat) (u : Mem) (K : Int32 → Mem → Prop) (X : String → Mem → Prop) (h : w_X5_pass G v0 v1 MC MS u K X) : CtX l yX5_pass (.code yX5_pass cX5_pass 4 (some .int)) 10 263 MC MS G [.ref v0, .int v1] u K X := by
  refine entX (by first | decide | decide +kernel) hst (by first | decide | exact Nat.le_of_ble_eq_true rfl) (fun p e s m below meth c ls F hr hout hW hl => ?_)
  have F : Fx p l s m ([.ref v0, .int v1]).toArray meth c cX5_pass 4 RX5 G := F
  have hl : lv_has ls 4 [(0, .ref v0), (1, .int v1)] := hl
  have hx := F.1.1
  have hb := F.1.2.1
  have hbc : 0 + MC = MC := Nat.zero_add _
  have hbs : 0 + MS = MS := Nat.zero_add _
  unfold w_X5_pass at h
  refine lv_iload_n hx hb dX5_pass_0 rfl (lv_at hl 1 rfl) ?_
  refine lv_iconst (v := (1 : Int32)) hx hb dX5_pass_1 (by decide) ?_
  refine lv_icmp_lt (tgt := 11) hx hb dX5_pass_2 (by decide) (fun hc1 => ?_) (fun hc1 => ?_)
  · have h := h.1 hc1
    exact t_X5_pass_11 v0 v1 MC MS F hr hout K X MC MS u _ _ _ _ _ h hW (lv_sub hl [0, 1] rfl) hbc hbs
  · have h := h.2 hc1
    refine lv_iload_n hx hb dX5_pass_5 rfl (lv_at hl 1 rfl) ?_
    refine lv_bipush (v := (60 : Int32)) hx hb dX5_pass_6 (by decide) ?_
    refine lv_icmp_le (tgt := 21) hx hb dX5_pass_8 (by decide) (fun hc2 => ?_) (fun hc2 => ?_)
    · have h := h.1 hc2
      refine lv_aload_n hx hb dX5_pass_21 rfl (lv_at hl 0 rfl) ?_
      refine gf_6_5 F hW h.1 q_23 dX5_pass_22 ?_
      replace h := h.2
      refine lv_sipush (v := (1000 : Int32)) hx hb dX5_pass_25 (by decide) ?_
      refine lv_iload_n hx hb dX5_pass_28 rfl (lv_at hl 1 rfl) ?_
      refine lv_isub hx hb dX5_pass_29 ?_
      refine lv_icmp_le (tgt := 43) hx hb dX5_pass_30 (by decide) (fun hc3 => ?_) (fun hc3 => ?_)
      · have h := h.1 hc3
        refine lv_iconst (v := (0 : Int32)) hx hb dX5_pass_43 (by decide) ?_
        refine lv_istore_n (lv' := [(2, .int (0 : Int32)), (0, .ref v0), (1, .int v1)]) hx hb dX5_pass_44 rfl hl (by decide) rfl (fun ls hl9 => ?_)
        replace hl := hl9
        clear hl9
        refine lv_iconst (v := (0 : Int32)) hx hb dX5_pass_45 (by decide) ?_
        refine lv_istore_n (lv' := [(3, .int (0 : Int32)), (2, .int (0 : Int32)), (0, .ref v0), (1, .int v1)]) hx hb dX5_pass_46 rfl hl (by decide) rfl (fun ls hl9 => ?_)
        replace hl := hl9
        clear hl9
        obtain ⟨n, h⟩ := h
        exact t_X5_pass_47 v0 v1 MC MS F hr hout K X n (0 : Int32) (0 : Int32) MC MS u _ _ _ _ _ h hW (lv_sub hl [2, 3, 1, 0] rfl) hbc hbs
      · have h := h.2 hc3
        have h1 := h.1
        have h6 := h.2.1
        have hc1 := bdf hbc h1
        have hs1 := bdf hbs h6
        exact rThrow F hW (cls := "java/lang/IllegalStateException") (by decide) q_84 q_85 (List.mem_of_getElem? (i := 4) rfl) (xa_2 F) xg_2 hl.1 dX5_pass_33 dX5_pass_36 dX5_pass_37 dX5_pass_39 dX5_pass_42 hout (Nat.le_of_ble_eq_true rfl) (Nat.le_of_ble_eq_true rfl) hc1 hs1 h.2.2 hc1 hs1
    · have h := h.2 hc2
      exact t_X5_pass_11 v0 v1 MC MS F hr hout K X MC MS u _ _ _ _ _ h hW (lv_sub hl [0, 1] rfl) hbc hbs
end WK2
