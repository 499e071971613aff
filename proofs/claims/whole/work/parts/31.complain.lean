section S2P
variable {B : Nat → Nat → Nat} {G : Ctx} {s s2 : Nat → Nat → Int32} {t : Nat → Nat → Nat} {ka : List Nat} {u : Mem}
theorem c_walk' (h : S2 B G s t ka s2 u) (hn : t 3 0 ≤ 60) {i : Nat} (hi : i < t 3 0) {K : Option Nat → Mem → Prop} (hK : K (some (t 0 i)) u) : w_X5_findWalk G (B 0 0) (nI i) u K := by
  simp [w_X5_findWalk, fd h, w_Jx4a65c_size_8abf5, w_get0 h hi, fw h hi, rgw hi hn, hK]
theorem c_walkN (h : S2 B G s t ka s2 u) (hn : t 3 0 ≤ 60) {x : Int32} (hx : x < 0 ∨ nI (t 3 0) ≤ x) {K : Option Nat → Mem → Prop} (hK : K none u) : w_X5_findWalk G (B 0 0) x u K := by
  by_cases hx0 : x < 0
  · simp [w_X5_findWalk, w_X5_findWalk_15, hx0, hK]
  · have o1 := ogw hn (hx.resolve_left hx0)
    simp [w_X5_findWalk, w_X5_findWalk_15, fd h, w_Jx4a65c_size_8abf5, o1, hK]
theorem c_str (h : S2 B G s t ka s2 u) {i : Nat} (hi : i < 8) {K : Option Nat → Mem → Prop} (hK : K (some (B 1 i)) u) : w_X5_findStreet G (B 0 0) (nI i) u K := by
  simp [w_X5_findStreet, fd h, fs h hi, rg8 hi, hK]
theorem cp1 : ∀ r, r < 101 → (if nI r + 5 < (100 : Int32) then nI r + 5 else (100 : Int32)) = nI (min (r + 5) 100) ∧ ((0 ≤ nI r + 5 ∧ nI r + 5 ≤ (100 : Int32) ∧ nI r + 5 = nI (min (r + 5) 100)) ∨ (0 ≤ nI r + 5 ∧ ¬ (nI r + 5 ≤ (100 : Int32)) ∧ 100 = nI (min (r + 5) 100)) ∨ (¬ (0 ≤ nI r + 5) ∧ 0 = nI (min (r + 5) 100))) := by decide +kernel
theorem cp2 : ∀ r, r < 101 → (if (0 : Int32) < nI r - 10 then nI r - 10 else (0 : Int32)) = nI (r - 10) ∧ ((0 ≤ nI r + (-10) ∧ nI r + (-10) ≤ (100 : Int32) ∧ nI r + (-10) = nI (r - 10)) ∨ (0 ≤ nI r + (-10) ∧ ¬ (nI r + (-10) ≤ (100 : Int32)) ∧ 100 = nI (r - 10)) ∨ (¬ (0 ≤ nI r + (-10)) ∧ 0 = nI (r - 10))) := by decide +kernel
theorem I_16 (h : Iv s t ka) (i : Nat) (v : Int32) (hi : i < t 3 0) : Iv (up2 s 16 i v) t ka := by
  obtain ⟨i0, i1, i2, i3, i4, i5, i6, i7, i8, i9, i10⟩ := h
  refine ⟨i0, i1, i2, i3, i4, i5, i6, i7, fun w hw => ?_, i9, i10⟩
  obtain ⟨y1, y2, y3⟩ := i8 w hw
  exact ⟨y1, y2, by rw [up2_at, if_neg (by omega)]; exact y3⟩
theorem I_15 (h : Iv s t ka) (i : Nat) (v : Int32) (hi : i < t 3 0) : Iv (up2 s 15 i v) t ka := by
  obtain ⟨i0, i1, i2, i3, i4, i5, i6, i7, i8, i9, i10⟩ := h
  refine ⟨i0, i1, i2, i3, i4, i5, i6, i7, fun w hw => ?_, i9, i10⟩
  obtain ⟨y1, y2, y3⟩ := i8 w hw
  exact ⟨y1, by rw [up2_at, if_neg (by omega)]; exact y2, y3⟩
theorem fin1 {code r2 : Int32} {A : Mem → Prop} (h : S2 B G s t ka s2 u) (hc : mI u 224 (B 0 1) = code) (ho : code = 0 → mJ u (B 0 2) 0 = r2.toInt64) (hA : A u) : OB u (B 0 1) 7 ∧ w_X6_thrown G (B 0 1) u (fun r u' => ((r = code → ((code = 0 → (OB u' (B 0 2) 10 ∧ vp_in (0 : Int32) (mN u' (B 0 2)) ∧ (((lg_cmp (mJ u' (B 0 2) (0 : Int32).toNatClampNeg) (r2.toInt64)) = 0 → A u') ∧ (¬ (lg_cmp (mJ u' (B 0 2) (0 : Int32).toNatClampNeg) (r2.toInt64)) = 0 → False)))) ∧ (¬ code = 0 → A u'))) ∧ (¬ r = code → False))) := by
  obtain ⟨x1, x2⟩ := h.2.2.2.2.2.2.2.2.2.1
  refine ⟨(fm h).1, (fm h).1, fun _ => ⟨fun z => ⟨x1, by rw [x2]; exact vp0, fun _ => hA, fun y => y ?_⟩, fun _ => hA⟩, fun z => z hc⟩
  have e : mJ u (B 0 2) (0 : Int32).toNatClampNeg = r2.toInt64 := ho z
  rw [e, cmpS]
theorem out1 (h : S2 B G s t ka s2 u) {r : Int32} {K : Mem → Prop} (hK : S2 B G s t ka s2 (setJ u (B 0 2) 0 r.toInt64) → mJ (setJ u (B 0 2) 0 r.toInt64) (B 0 2) 0 = r.toInt64 → K (setJ u (B 0 2) 0 r.toInt64)) : OB u (B 0 2) 10 ∧ vp_in (0 : Int32) (mN u (B 0 2)) ∧ (∀ u5 : Mem, u5 = setJ u (B 0 2) ((0 : Int32).toNatClampNeg) (r.toInt64) → K u5) := by
  obtain ⟨x1, x2⟩ := h.2.2.2.2.2.2.2.2.2.1
  refine ⟨x1, by rw [x2]; exact vp0, fun u5 h5 => ?_⟩
  rw [h5]
  exact hK (S_out h _ _ _) (by rw [gJ_setJ, if_pos ⟨rfl, rfl⟩])
theorem c_compl (h : S2 B G s t ka s2 u) (hn : t 3 0 ≤ 60) {i e : Nat} {v v2 : Int32} (hi : i < t 3 0) (z3 : s 13 i = 3) (he : e < 4) (z : s 14 i = nI e) (z4 : s 16 i = 0) (hv : (v2 = 0 ∧ (if (0 : Int32) < s 8 e - 10 then s 8 e - 10 else 0) = v) ∨ (¬ v2 = 0 ∧ (if s 8 e + 5 < (100 : Int32) then s 8 e + 5 else 100) = v)) {K : Int32 → Mem → Prop} {X : String → Mem → Prop} (hK : K v (setI (setI u 166 (t 0 i) 1) 66 (B 3 e) v)) : w_X5_complain G (B 0 0) (nI i) v2 1 6 u K X := by
  have z1 : ¬ (nI e = -1) := fun k => absurd (k ▸ nI_pos (n := e) (by omega)) (by decide)
  refine ⟨(fd h).1, c_walk' h hn hi ?_⟩
  rcases hv with ⟨q1, q2⟩ | ⟨q1, q2⟩
  · simp [w_X5_complain_104, fw h hi, fe h he, z, z1, z3, z4, nIc he (by decide : 4 < 2 ^ 31), q1, gI_setI, gO_setI, q2, hK]
  · simp [w_X5_complain_104, fw h hi, fe h he, z, z1, z3, z4, nIc he (by decide : 4 < 2 ^ 31), q1, gI_setI, gO_setI, q2, hK]
theorem c_complX (h : S2 B G s t ka s2 u) (hn : t 3 0 ≤ 60) {i : Nat} {v2 : Int32} (hi : i < t 3 0) (hz : ¬ s 13 i = 3 ∨ ∃ e, e < 4 ∧ s 14 i = nI e ∧ ¬ s 16 i = 0) {K : Int32 → Mem → Prop} {X : String → Mem → Prop} (hX : X "java/lang/IllegalStateException" u) : w_X5_complain G (B 0 0) (nI i) v2 1 6 u K X := by
  refine ⟨(fd h).1, c_walk' h hn hi ?_⟩
  rcases hz with z3 | ⟨e, he, z, z4⟩
  · simp [w_X5_complain_39, fw h hi, z3, hX]
  · have z1 : ¬ (nI e = -1) := fun k => absurd (k ▸ nI_pos (n := e) (by omega)) (by decide)
    simp [w_X5_complain_39, fw h hi, z, z1, z4, hX]
theorem m_compl (h : S2 B G s t ka s2 u) (hn : t 3 0 ≤ 60) (hI : s2 10 0 = nI (t 3 0)) {i e : Nat} {v v2 d : Int32} (hd : (v2 = 0 ∧ d = -10) ∨ (¬ v2 = 0 ∧ d = 5)) (hi : i < t 3 0) (z3 : s2 13 i = 3) (he : e < 4) (z : s2 14 i = nI e) (z4 : s2 16 i = 0) (hv : (0 ≤ s2 8 e + d ∧ s2 8 e + d ≤ 100 ∧ s2 8 e + d = v) ∨ (0 ≤ s2 8 e + d ∧ ¬ s2 8 e + d ≤ 100 ∧ 100 = v) ∨ (¬ 0 ≤ s2 8 e + d ∧ 0 = v)) {K : Int32 → Mem → Prop} (hK : K v (setA (setA (setI u 224 (B 0 1) 0) (B 4 8) e v) (B 4 16) i 1)) : w_X6_complain G (B 0 1) (nI i) v2 u K := by
  have n816 := ne4 h (k := 8) (k' := 16) (by unfold ak; omega) (by unfold ak; omega) (by decide)
  have k98 : ∀ v3, v3 = v → w_X6_complain_98 G (B 0 1) (nI i) v2 K (nI e) v3 (nI e) (some (B 4 8)) (setI u 224 (B 0 1) 0) := fun v3 e3 => by
    subst e3
    simp [w_X6_complain_98, fm h, rg4 he, rgw hi hn, gL_setI, gK_setI, gI_setI, gR_setI, gN_setI, gA_setI, gB_setI, gJ_setI, gO_setI, gL_setR, gK_setR, gI_setR, gR_setR, gN_setR, gA_setR, gB_setR, gJ_setR, gO_setR, gL_setA, gK_setA, gI_setA, gR_setA, gN_setA, gA_setA, gB_setA, gJ_setA, gO_setA, gL_setB, gK_setB, gI_setB, gR_setB, gN_setB, gA_setB, gB_setB, gJ_setB, gO_setB, gL_setJ, gK_setJ, gI_setJ, gR_setJ, gN_setJ, gA_setJ, gB_setJ, gJ_setJ, gO_setJ, gL_setC, gK_setC, gI_setC, gR_setC, gN_setC, gA_setC, gB_setC, gJ_setC, gO_setC, gK_mNew, gI_mNew, gR_mNew, gN_mNew, gA_mNew, gB_mNew, gJ_mNew, n816, hK]
  have k67 : w_X6_complain_67 G (B 0 1) (nI i) v2 K (nI e) d (s2 8 e) (setI u 224 (B 0 1) 0) := by
    refine ⟨(fm h).1, fun r hr => ?_⟩
    have hr := hr.trans (fr h (k := 8) (by unfold ak; omega)).1
    subst hr
    rcases hv with ⟨q1, q2, q3⟩ | ⟨q1, q2, q3⟩ | ⟨q1, q3⟩
    · exact ⟨fun _ => ⟨fun _ => k98 _ q3, fun y => absurd q2 y⟩, fun y => absurd q1 y⟩
    · exact ⟨fun _ => ⟨fun y => absurd y q2, fun _ => k98 _ q3⟩, fun y => absurd q1 y⟩
    · exact ⟨fun y => absurd y q1, fun _ => k98 _ q3⟩
  rcases hd with ⟨q1, q2⟩ | ⟨q1, q2⟩
  · subst q2
    simp [w_X6_complain, w_X6_isWalk, w_X6_in, fm h, rgw hi hn, hI, rg4 he, fa_w h (Nat.lt_of_lt_of_le hi hn), fa_e h he, z, z3, z4, q1, gL_setI, gK_setI, gI_setI, gR_setI, gN_setI, gA_setI, gB_setI, gJ_setI, gO_setI, gL_setR, gK_setR, gI_setR, gR_setR, gN_setR, gA_setR, gB_setR, gJ_setR, gO_setR, gL_setA, gK_setA, gI_setA, gR_setA, gN_setA, gA_setA, gB_setA, gJ_setA, gO_setA, gL_setB, gK_setB, gI_setB, gR_setB, gN_setB, gA_setB, gB_setB, gJ_setB, gO_setB, gL_setJ, gK_setJ, gI_setJ, gR_setJ, gN_setJ, gA_setJ, gB_setJ, gJ_setJ, gO_setJ, gL_setC, gK_setC, gI_setC, gR_setC, gN_setC, gA_setC, gB_setC, gJ_setC, gO_setC, gK_mNew, gI_mNew, gR_mNew, gN_mNew, gA_mNew, gB_mNew, gJ_mNew]
    exact k67
  · subst q2
    simp [w_X6_complain, w_X6_isWalk, w_X6_in, fm h, rgw hi hn, hI, rg4 he, fa_w h (Nat.lt_of_lt_of_le hi hn), fa_e h he, z, z3, z4, q1, gL_setI, gK_setI, gI_setI, gR_setI, gN_setI, gA_setI, gB_setI, gJ_setI, gO_setI, gL_setR, gK_setR, gI_setR, gR_setR, gN_setR, gA_setR, gB_setR, gJ_setR, gO_setR, gL_setA, gK_setA, gI_setA, gR_setA, gN_setA, gA_setA, gB_setA, gJ_setA, gO_setA, gL_setB, gK_setB, gI_setB, gR_setB, gN_setB, gA_setB, gB_setB, gJ_setB, gO_setB, gL_setJ, gK_setJ, gI_setJ, gR_setJ, gN_setJ, gA_setJ, gB_setJ, gJ_setJ, gO_setJ, gL_setC, gK_setC, gI_setC, gR_setC, gN_setC, gA_setC, gB_setC, gJ_setC, gO_setC, gK_mNew, gI_mNew, gR_mNew, gN_mNew, gA_mNew, gB_mNew, gJ_mNew]
    exact k67
theorem m_complX (h : S2 B G s t ka s2 u) (hn : t 3 0 ≤ 60) (hI : s2 10 0 = nI (t 3 0)) {i : Nat} {v2 : Int32} (hi : i < t 3 0) (hz : ¬ s2 13 i = 3 ∨ ¬ s2 16 i = 0) {K : Int32 → Mem → Prop} (hK : K 0 (setI (setI u 224 (B 0 1) 0) 224 (B 0 1) 2)) : w_X6_complain G (B 0 1) (nI i) v2 u K := by
  by_cases z3 : s2 13 i = 3
  · simp [w_X6_complain, w_X6_complain_38, w_X6_fails, w_X6_isWalk, w_X6_in, fm h, rgw hi hn, hI, fa_w h (Nat.lt_of_lt_of_le hi hn), z3, hz.resolve_left (fun k => k z3), hK, gL_setI, gK_setI, gI_setI, gR_setI, gN_setI, gA_setI, gB_setI, gJ_setI, gO_setI, gL_setR, gK_setR, gI_setR, gR_setR, gN_setR, gA_setR, gB_setR, gJ_setR, gO_setR, gL_setA, gK_setA, gI_setA, gR_setA, gN_setA, gA_setA, gB_setA, gJ_setA, gO_setA, gL_setB, gK_setB, gI_setB, gR_setB, gN_setB, gA_setB, gB_setB, gJ_setB, gO_setB, gL_setJ, gK_setJ, gI_setJ, gR_setJ, gN_setJ, gA_setJ, gB_setJ, gJ_setJ, gO_setJ, gL_setC, gK_setC, gI_setC, gR_setC, gN_setC, gA_setC, gB_setC, gJ_setC, gO_setC, gK_mNew, gI_mNew, gR_mNew, gN_mNew, gA_mNew, gB_mNew, gJ_mNew]
  · simp [w_X6_complain, w_X6_complain_38, w_X6_fails, w_X6_isWalk, w_X6_in, fm h, rgw hi hn, hI, fa_w h (Nat.lt_of_lt_of_le hi hn), z3, hK, gL_setI, gK_setI, gI_setI, gR_setI, gN_setI, gA_setI, gB_setI, gJ_setI, gO_setI, gL_setR, gK_setR, gI_setR, gR_setR, gN_setR, gA_setR, gB_setR, gJ_setR, gO_setR, gL_setA, gK_setA, gI_setA, gR_setA, gN_setA, gA_setA, gB_setA, gJ_setA, gO_setA, gL_setB, gK_setB, gI_setB, gR_setB, gN_setB, gA_setB, gB_setB, gJ_setB, gO_setB, gL_setJ, gK_setJ, gI_setJ, gR_setJ, gN_setJ, gA_setJ, gB_setJ, gJ_setJ, gO_setJ, gL_setC, gK_setC, gI_setC, gR_setC, gN_setC, gA_setC, gB_setC, gJ_setC, gO_setC, gK_mNew, gI_mNew, gR_mNew, gN_mNew, gA_mNew, gB_mNew, gJ_mNew]
theorem p_620 (L : Nat) (xs : Nat → Int32) (J : Nat → Nat → Nat → Int32 → Nat → Nat → Mem → Prop) {v4 : Int32} {mc ms q : Nat} (a1 : vp_in (v4 + 1) L) (a2 : vp_in (v4 + 2) L) (h : S2 B G s t ka s u) (hI : Iv s t ka) (hP : Pt (q + 1) mc ms t) (hJ : HJ B G q (J (B 0 0) (B 0 1) (B 0 2) (v4 + 4))) : w_L_law_620 G L xs J (B 0 0) (B 0 1) (B 0 2) v4 mc ms u := by
  obtain ⟨b1, b2, b3, b4⟩ := Pt_1 hP
  refine ⟨a1, a2, fun hx => ?_, fun hx => ?_⟩ <;> refine ⟨1, 6, b1, b2, ?_⟩ <;> revert hx <;> generalize xs (v4 + 1).toNatClampNeg = x1 <;> generalize xs (v4 + 2).toNatClampNeg = x2 <;> intro hx <;> refine ⟨1, 6, Nat.le_refl _, Nat.le_refl _, (fd h).1, ?_⟩
  · by_cases n1 : x1 < 0
    · simp [w_X5_complain, w_X6_complain, w_L_law_668, w_L_law_701, w_X6_isStreet, w_X6_isEscort, w_X6_isWalk, w_X6_in, w_X6_fails, w_X6_thrown, w_L_law_1347, vp0, cmpS, fd h, fm h, w_X5_findWalk, w_X5_findWalk_15, w_Jx4a65c_size_8abf5, hI.1.2.2.1, a1, a2, hx, n1, gL_setI, gK_setI, gI_setI, gR_setI, gN_setI, gA_setI, gB_setI, gJ_setI, gO_setI, gL_setR, gK_setR, gI_setR, gR_setR, gN_setR, gA_setR, gB_setR, gJ_setR, gO_setR, gL_setA, gK_setA, gI_setA, gR_setA, gN_setA, gA_setA, gB_setA, gJ_setA, gO_setA, gL_setB, gK_setB, gI_setB, gR_setB, gN_setB, gA_setB, gB_setB, gJ_setB, gO_setB, gL_setJ, gK_setJ, gI_setJ, gR_setJ, gN_setJ, gA_setJ, gB_setJ, gJ_setJ, gO_setJ, gL_setC, gK_setC, gI_setC, gR_setC, gN_setC, gA_setC, gB_setC, gJ_setC, gO_setC, gK_mNew, gI_mNew, gR_mNew, gN_mNew, gA_mNew, gB_mNew, gJ_mNew]
      exact hJ _ _ _ _ _ _ (S_thrown (S_thrown h _ _) _ _) hI b3
    · by_cases m1 : nI (t 3 0) ≤ x1
      · have o1 := ogw hI.1.1 m1
        simp [w_X5_complain, w_X6_complain, w_L_law_668, w_L_law_701, w_X6_isStreet, w_X6_isEscort, w_X6_isWalk, w_X6_in, w_X6_fails, w_X6_thrown, w_L_law_1347, vp0, cmpS, fd h, fm h, w_X5_findWalk, w_X5_findWalk_15, w_Jx4a65c_size_8abf5, hI.1.2.2.1, a1, a2, hx, n1, o1, gL_setI, gK_setI, gI_setI, gR_setI, gN_setI, gA_setI, gB_setI, gJ_setI, gO_setI, gL_setR, gK_setR, gI_setR, gR_setR, gN_setR, gA_setR, gB_setR, gJ_setR, gO_setR, gL_setA, gK_setA, gI_setA, gR_setA, gN_setA, gA_setA, gB_setA, gJ_setA, gO_setA, gL_setB, gK_setB, gI_setB, gR_setB, gN_setB, gA_setB, gB_setB, gJ_setB, gO_setB, gL_setJ, gK_setJ, gI_setJ, gR_setJ, gN_setJ, gA_setJ, gB_setJ, gJ_setJ, gO_setJ, gL_setC, gK_setC, gI_setC, gR_setC, gN_setC, gA_setC, gB_setC, gJ_setC, gO_setC, gK_mNew, gI_mNew, gR_mNew, gN_mNew, gA_mNew, gB_mNew, gJ_mNew]
        exact hJ _ _ _ _ _ _ (S_thrown (S_thrown h _ _) _ _) hI b3
      · obtain ⟨i, hi, rfl⟩ := in8 (by have := hI.1.1; omega) n1 m1
        by_cases hz : s 13 i = 3 ∧ s 16 i = 0
        · obtain ⟨z3, z4⟩ := hz
          rcases hI.2.2.2.2.2.2.2.1 i hi with ⟨_, z⟩ | ⟨e, he, z, _⟩
          · rw [z] at z3; exact absurd z3 (by decide)
          · obtain ⟨r, hr, er⟩ := hI.2.2.2.2.2.1 e he
            obtain ⟨c1, c2⟩ := cp2 r (by omega)
            rw [← er] at c1 c2
            refine c_compl h hI.1.1 hi z3 he z z4 (.inl ⟨(rfl : (0 : Int32) = 0), c1⟩) ?_
            refine out1 (S_erank (S_wtold h hi _) he _) (fun hS hO => ?_)
            refine ⟨a1, a2, fun _ => ?_, fun y => absurd hx y⟩
            refine ⟨(fm hS).1, ?_⟩
            refine m_compl hS hI.1.1 (hI.1.2.2.1) (v := nI (r - 10)) (d := (-10)) (.inl ⟨(rfl : (0 : Int32) = 0), rfl⟩) hi ?_ he ?_ ?_ ?_ ?_
            · exact z3
            · exact z
            · exact z4
            · exact c2
            · refine fin1 (A := w_L_law_701 G L xs J (B 0 0) (B 0 1) (B 0 2) v4 (mc - 1) (ms - 6)) (S_mrow (S_mrow (S_thrown hS _ _) (k0 := 8) (by unfold ak; omega) he _) (k0 := 16) (by unfold ak; omega) (Nat.lt_of_lt_of_le hi hI.1.1) _) ?_ (fun _ => ?_) ?_
              · simp [gI_setI, gI_setA]
              · exact hO
              · exact hJ _ _ _ _ _ _ (S2_eq (S_mrow (S_mrow (S_thrown hS _ _) (k0 := 8) (by unfold ak; omega) he _) (k0 := 16) (by unfold ak; omega) (Nat.lt_of_lt_of_le hi hI.1.1) _) rfl (up2_comm _ _ _ (.inl (by decide)))) (I_8 (I_16 hI _ _ hi) _ _ ⟨_, by omega, rfl⟩) b3
        · have hz1 : ¬ s 13 i = 3 ∨ ¬ s 16 i = 0 := by
            by_cases k : s 13 i = 3
            · exact .inr (fun k2 => hz ⟨k, k2⟩)
            · exact .inl k
          have hz2 : ¬ s 13 i = 3 ∨ ∃ e, e < 4 ∧ s 14 i = nI e ∧ ¬ s 16 i = 0 := by
            by_cases k : s 13 i = 3
            · rcases hI.2.2.2.2.2.2.2.1 i hi with ⟨_, z⟩ | ⟨e, he, z, _⟩
              · rw [z] at k; exact absurd k (by decide)
              · exact .inr ⟨e, he, z, fun k2 => hz ⟨k, k2⟩⟩
            · exact .inl k
          refine c_complX h hI.1.1 hi hz2 (.inr ⟨rfl, ?_⟩)
          refine ⟨a1, a2, fun _ => ?_, fun y => absurd hx y⟩
          refine ⟨(fm h).1, m_complX h hI.1.1 hI.1.2.2.1 hi hz1 ?_⟩
          exact fin1 (A := w_L_law_701 G L xs J (B 0 0) (B 0 1) (B 0 2) v4 (mc - 1) (ms - 6)) (S_thrown (S_thrown h _ _) _ _) (by simp [gI_setI]) (fun z => absurd z (by decide)) (hJ _ _ _ _ _ _ (S_thrown (S_thrown h _ _) _ _) hI b3)
  · by_cases n1 : x1 < 0
    · simp [w_X5_complain, w_X6_complain, w_L_law_668, w_L_law_701, w_X6_isStreet, w_X6_isEscort, w_X6_isWalk, w_X6_in, w_X6_fails, w_X6_thrown, w_L_law_1347, vp0, cmpS, fd h, fm h, w_X5_findWalk, w_X5_findWalk_15, w_Jx4a65c_size_8abf5, hI.1.2.2.1, a1, a2, hx, n1, gL_setI, gK_setI, gI_setI, gR_setI, gN_setI, gA_setI, gB_setI, gJ_setI, gO_setI, gL_setR, gK_setR, gI_setR, gR_setR, gN_setR, gA_setR, gB_setR, gJ_setR, gO_setR, gL_setA, gK_setA, gI_setA, gR_setA, gN_setA, gA_setA, gB_setA, gJ_setA, gO_setA, gL_setB, gK_setB, gI_setB, gR_setB, gN_setB, gA_setB, gB_setB, gJ_setB, gO_setB, gL_setJ, gK_setJ, gI_setJ, gR_setJ, gN_setJ, gA_setJ, gB_setJ, gJ_setJ, gO_setJ, gL_setC, gK_setC, gI_setC, gR_setC, gN_setC, gA_setC, gB_setC, gJ_setC, gO_setC, gK_mNew, gI_mNew, gR_mNew, gN_mNew, gA_mNew, gB_mNew, gJ_mNew]
      exact hJ _ _ _ _ _ _ (S_thrown (S_thrown h _ _) _ _) hI b3
    · by_cases m1 : nI (t 3 0) ≤ x1
      · have o1 := ogw hI.1.1 m1
        simp [w_X5_complain, w_X6_complain, w_L_law_668, w_L_law_701, w_X6_isStreet, w_X6_isEscort, w_X6_isWalk, w_X6_in, w_X6_fails, w_X6_thrown, w_L_law_1347, vp0, cmpS, fd h, fm h, w_X5_findWalk, w_X5_findWalk_15, w_Jx4a65c_size_8abf5, hI.1.2.2.1, a1, a2, hx, n1, o1, gL_setI, gK_setI, gI_setI, gR_setI, gN_setI, gA_setI, gB_setI, gJ_setI, gO_setI, gL_setR, gK_setR, gI_setR, gR_setR, gN_setR, gA_setR, gB_setR, gJ_setR, gO_setR, gL_setA, gK_setA, gI_setA, gR_setA, gN_setA, gA_setA, gB_setA, gJ_setA, gO_setA, gL_setB, gK_setB, gI_setB, gR_setB, gN_setB, gA_setB, gB_setB, gJ_setB, gO_setB, gL_setJ, gK_setJ, gI_setJ, gR_setJ, gN_setJ, gA_setJ, gB_setJ, gJ_setJ, gO_setJ, gL_setC, gK_setC, gI_setC, gR_setC, gN_setC, gA_setC, gB_setC, gJ_setC, gO_setC, gK_mNew, gI_mNew, gR_mNew, gN_mNew, gA_mNew, gB_mNew, gJ_mNew]
        exact hJ _ _ _ _ _ _ (S_thrown (S_thrown h _ _) _ _) hI b3
      · obtain ⟨i, hi, rfl⟩ := in8 (by have := hI.1.1; omega) n1 m1
        by_cases hz : s 13 i = 3 ∧ s 16 i = 0
        · obtain ⟨z3, z4⟩ := hz
          rcases hI.2.2.2.2.2.2.2.1 i hi with ⟨_, z⟩ | ⟨e, he, z, _⟩
          · rw [z] at z3; exact absurd z3 (by decide)
          · obtain ⟨r, hr, er⟩ := hI.2.2.2.2.2.1 e he
            obtain ⟨c1, c2⟩ := cp1 r (by omega)
            rw [← er] at c1 c2
            refine c_compl h hI.1.1 hi z3 he z z4 (.inr ⟨(by decide : ¬ (1 : Int32) = 0), c1⟩) ?_
            refine out1 (S_erank (S_wtold h hi _) he _) (fun hS hO => ?_)
            refine ⟨a1, a2, fun y => absurd y hx, fun _ => ?_⟩
            refine ⟨(fm hS).1, ?_⟩
            refine m_compl hS hI.1.1 (hI.1.2.2.1) (v := nI (min (r + 5) 100)) (d := 5) (.inr ⟨(by decide : ¬ (1 : Int32) = 0), rfl⟩) hi ?_ he ?_ ?_ ?_ ?_
            · exact z3
            · exact z
            · exact z4
            · exact c2
            · refine fin1 (A := w_L_law_701 G L xs J (B 0 0) (B 0 1) (B 0 2) v4 (mc - 1) (ms - 6)) (S_mrow (S_mrow (S_thrown hS _ _) (k0 := 8) (by unfold ak; omega) he _) (k0 := 16) (by unfold ak; omega) (Nat.lt_of_lt_of_le hi hI.1.1) _) ?_ (fun _ => ?_) ?_
              · simp [gI_setI, gI_setA]
              · exact hO
              · exact hJ _ _ _ _ _ _ (S2_eq (S_mrow (S_mrow (S_thrown hS _ _) (k0 := 8) (by unfold ak; omega) he _) (k0 := 16) (by unfold ak; omega) (Nat.lt_of_lt_of_le hi hI.1.1) _) rfl (up2_comm _ _ _ (.inl (by decide)))) (I_8 (I_16 hI _ _ hi) _ _ ⟨_, by omega, rfl⟩) b3
        · have hz1 : ¬ s 13 i = 3 ∨ ¬ s 16 i = 0 := by
            by_cases k : s 13 i = 3
            · exact .inr (fun k2 => hz ⟨k, k2⟩)
            · exact .inl k
          have hz2 : ¬ s 13 i = 3 ∨ ∃ e, e < 4 ∧ s 14 i = nI e ∧ ¬ s 16 i = 0 := by
            by_cases k : s 13 i = 3
            · rcases hI.2.2.2.2.2.2.2.1 i hi with ⟨_, z⟩ | ⟨e, he, z, _⟩
              · rw [z] at k; exact absurd k (by decide)
              · exact .inr ⟨e, he, z, fun k2 => hz ⟨k, k2⟩⟩
            · exact .inl k
          refine c_complX h hI.1.1 hi hz2 (.inr ⟨rfl, ?_⟩)
          refine ⟨a1, a2, fun y => absurd y hx, fun _ => ?_⟩
          refine ⟨(fm h).1, m_complX h hI.1.1 hI.1.2.2.1 hi hz1 ?_⟩
          exact fin1 (A := w_L_law_701 G L xs J (B 0 0) (B 0 1) (B 0 2) v4 (mc - 1) (ms - 6)) (S_thrown (S_thrown h _ _) _ _) (by simp [gI_setI]) (fun z => absurd z (by decide)) (hJ _ _ _ _ _ _ (S_thrown (S_thrown h _ _) _ _) hI b3)
end S2P
