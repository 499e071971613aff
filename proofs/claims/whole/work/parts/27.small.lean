section S2P
variable {B : Nat → Nat → Nat} {G : Ctx} {s s2 : Nat → Nat → Int32} {t : Nat → Nat → Nat} {ka : List Nat} {u : Mem}
theorem z01 : ((0 : Int32) = 1) = False ∧ ((1 : Int32) = 0) = False ∧ ((2 : Int32) = 0) = False ∧ ((3 : Int32) = 0) = False := by decide
theorem cmpS (x : Int64) : lg_cmp x x = 0 := by simp [lg_cmp]
theorem vp0 : vp_in (0 : Int32) 1 := vp_in_nI (n := 0) (by decide) (by decide)
theorem in8 {x : Int32} {n : Nat} (hn : n < 2 ^ 31) (h1 : ¬ (x < 0)) (h2 : ¬ (nI n ≤ x)) : ∃ j, j < n ∧ x = nI j := by
  rcases pk_ix x hn with z | z | z
  · exact absurd z h1
  · exact absurd z h2
  · exact z
theorem og8 {x : Int32} (h : nI 8 ≤ x) : ¬ (x < 0) ∧ nI 8 ≤ x ∧ ¬ (x < nI 8) ∧ (7 : Int32) < x ∧ (8 : Int32) ≤ x := by
  have z := og (by decide) (by decide) h
  exact ⟨z.1, z.2.1, z.2.2.1, z.2.2.2, h⟩
theorem og4 {x : Int32} (h : nI 4 ≤ x) : ¬ (x < 0) ∧ nI 4 ≤ x ∧ ¬ (x < nI 4) ∧ (3 : Int32) < x ∧ (4 : Int32) ≤ x := by
  have z := og (by decide) (by decide) h
  exact ⟨z.1, z.2.1, z.2.2.1, z.2.2.2, h⟩
theorem og3 {x : Int32} (h : nI 3 ≤ x) : ¬ (x < 0) ∧ nI 3 ≤ x ∧ ¬ (x < nI 3) ∧ (2 : Int32) < x ∧ (3 : Int32) ≤ x ∧ ¬ (x < 3) := by
  have z := og (by decide) (by decide) h
  exact ⟨z.1, z.2.1, z.2.2.1, z.2.2.2, h, z.2.2.1⟩
theorem pay1 {p c : Nat} (hp : p ≤ 100000) (hc : c ≤ 10000) (h : p + c ≤ 100000) : nI p ≤ (100000 : Int32) - nI c ∧ nI p + nI c = nI (p + c) ∧ nI (p + c) ≤ (100000 : Int32) ∧ ¬ ((100000 : Int32) - nI c < nI p) ∧ ¬ ((100000 : Int32) < nI (p + c)) := by
  have e : (100000 : Int32) = nI 100000 := rfl
  have h1 : nI p ≤ (100000 : Int32) - nI c := by rw [e, pk_sub (by omega), nI_leI (by omega) (by omega)]; omega
  have h2 : nI (p + c) ≤ (100000 : Int32) := by rw [e, nI_leI (by omega) (by omega)]; omega
  exact ⟨h1, nI_add _ _, h2, Int32.not_lt.mpr h1, Int32.not_lt.mpr h2⟩
theorem pay2 {p c : Nat} (hp : p ≤ 100000) (hc : c ≤ 10000) (h : ¬ p + c ≤ 100000) : ¬ (nI p ≤ (100000 : Int32) - nI c) ∧ nI p + nI c = nI (p + c) ∧ ¬ (nI (p + c) ≤ (100000 : Int32)) ∧ (100000 : Int32) - nI c < nI p ∧ (100000 : Int32) < nI (p + c) := by
  have e : (100000 : Int32) = nI 100000 := rfl
  have h1 : ¬ (nI p ≤ (100000 : Int32) - nI c) := by rw [e, pk_sub (by omega), nI_leI (by omega) (by omega)]; omega
  have h2 : ¬ (nI (p + c) ≤ (100000 : Int32)) := by rw [e, nI_leI (by omega) (by omega)]; omega
  exact ⟨h1, nI_add _ _, h2, Int32.not_le.mp h1, Int32.not_le.mp h2⟩
theorem p_140 (L : Nat) (xs : Nat → Int32) (J : Nat → Nat → Nat → Int32 → Nat → Nat → Mem → Prop) {v4 : Int32} {mc ms q : Nat} (a1 : vp_in (v4 + 1) L) (a2 : vp_in (v4 + 2) L) (h : S2 B G s t ka s u) (hI : Iv s t ka) (hP : Pt (q + 1) mc ms t) (hJ : HJ B G q (J (B 0 0) (B 0 1) (B 0 2) (v4 + 4))) : w_L_law_140 G L xs J (B 0 0) (B 0 1) (B 0 2) v4 mc ms u := by
  obtain ⟨b1, b2, b3, b4⟩ := Pt_1 hP
  refine ⟨a1, a2, 1, 6, b1, b2, ?_⟩
  generalize xs (v4 + 1).toNatClampNeg = x1
  generalize xs (v4 + 2).toNatClampNeg = x2
  refine ⟨1, 6, Nat.le_refl _, Nat.le_refl _, (fd h).1, ?_⟩
  have hT : S2 B G s t ka s (setI (setI u 224 (B 0 1) 0) 224 (B 0 1) 1) := S_thrown (S_thrown h _ _) _ _
  by_cases h1 : x1 < 0
  · simp [w_X5_pay, w_X6_pay, w_L_law_205, w_X5_findStreet, w_X5_findStreet_13, w_X6_isStreet, w_X6_in, w_X6_fails, w_X6_thrown, w_L_law_1347, vp0, cmpS, fd h, fm h, h1, a1, a2, gL_setI, gK_setI, gI_setI, gR_setI, gN_setI, gA_setI, gB_setI, gJ_setI, gO_setI, gL_setR, gK_setR, gI_setR, gR_setR, gN_setR, gA_setR, gB_setR, gJ_setR, gO_setR, gL_setA, gK_setA, gI_setA, gR_setA, gN_setA, gA_setA, gB_setA, gJ_setA, gO_setA, gL_setB, gK_setB, gI_setB, gR_setB, gN_setB, gA_setB, gB_setB, gJ_setB, gO_setB, gL_setJ, gK_setJ, gI_setJ, gR_setJ, gN_setJ, gA_setJ, gB_setJ, gJ_setJ, gO_setJ, gL_setC, gK_setC, gI_setC, gR_setC, gN_setC, gA_setC, gB_setC, gJ_setC, gO_setC, gK_mNew, gI_mNew, gR_mNew, gN_mNew, gA_mNew, gB_mNew, gJ_mNew]
    exact hJ _ _ _ _ _ _ hT hI b3
  · by_cases h2 : nI 8 ≤ x1
    · have h3 := og8 h2
      simp [w_X5_pay, w_X6_pay, w_L_law_205, w_X5_findStreet, w_X5_findStreet_13, w_X6_isStreet, w_X6_in, w_X6_fails, w_X6_thrown, w_L_law_1347, vp0, cmpS, fd h, fm h, h1, h3, a1, a2, gL_setI, gK_setI, gI_setI, gR_setI, gN_setI, gA_setI, gB_setI, gJ_setI, gO_setI, gL_setR, gK_setR, gI_setR, gR_setR, gN_setR, gA_setR, gB_setR, gJ_setR, gO_setR, gL_setA, gK_setA, gI_setA, gR_setA, gN_setA, gA_setA, gB_setA, gJ_setA, gO_setA, gL_setB, gK_setB, gI_setB, gR_setB, gN_setB, gA_setB, gB_setB, gJ_setB, gO_setB, gL_setJ, gK_setJ, gI_setJ, gR_setJ, gN_setJ, gA_setJ, gB_setJ, gJ_setJ, gO_setJ, gL_setC, gK_setC, gI_setC, gR_setC, gN_setC, gA_setC, gB_setC, gJ_setC, gO_setC, gK_mNew, gI_mNew, gR_mNew, gN_mNew, gA_mNew, gB_mNew, gJ_mNew]
      exact hJ _ _ _ _ _ _ hT hI b3
    · obtain ⟨i, hi, rfl⟩ := in8 (by decide) h1 h2
      by_cases h3 : x2 < 1
      · simp [w_X5_pay, w_X5_pay_32, w_X6_pay, w_L_law_205, w_X5_findStreet, w_X5_findStreet_13, w_X6_isStreet, w_X6_in, w_X6_fails, w_X6_thrown, w_L_law_1347, vp0, cmpS, fd h, fm h, fs h hi, rg8 hi, h3, a1, a2, gL_setI, gK_setI, gI_setI, gR_setI, gN_setI, gA_setI, gB_setI, gJ_setI, gO_setI, gL_setR, gK_setR, gI_setR, gR_setR, gN_setR, gA_setR, gB_setR, gJ_setR, gO_setR, gL_setA, gK_setA, gI_setA, gR_setA, gN_setA, gA_setA, gB_setA, gJ_setA, gO_setA, gL_setB, gK_setB, gI_setB, gR_setB, gN_setB, gA_setB, gB_setB, gJ_setB, gO_setB, gL_setJ, gK_setJ, gI_setJ, gR_setJ, gN_setJ, gA_setJ, gB_setJ, gJ_setJ, gO_setJ, gL_setC, gK_setC, gI_setC, gR_setC, gN_setC, gA_setC, gB_setC, gJ_setC, gO_setC, gK_mNew, gI_mNew, gR_mNew, gN_mNew, gA_mNew, gB_mNew, gJ_mNew]
        exact hJ _ _ _ _ _ _ (S_thrown (S_thrown h _ _) _ _) hI b3
      · by_cases h4 : x2 ≤ 10000
        · obtain ⟨c, hc, rfl⟩ := nI_of2 (n := 10000) (M := 10000) (by decide) (fun z => h3 (Int32.lt_trans z (by decide))) h4
          obtain ⟨p, hp, e3⟩ := hI.2.1 i hi
          have h5 : ¬ ((10000 : Int32) < nI c) := Int32.not_lt.mpr h4
          by_cases h6 : p + c ≤ 100000
          · have h7 := pay1 hp hc h6
            simp [w_X5_pay, w_X5_pay_32, w_X6_pay, w_L_law_205, w_X5_findStreet, w_X5_findStreet_13, w_X6_isStreet, w_X6_in, w_X6_fails, w_X6_thrown, w_L_law_1347, vp0, cmpS, fd h, fm h, fs h hi, rg8 hi, fa_s h hi, e3, h3, h4, h5, h7, a1, a2, gL_setI, gK_setI, gI_setI, gR_setI, gN_setI, gA_setI, gB_setI, gJ_setI, gO_setI, gL_setR, gK_setR, gI_setR, gR_setR, gN_setR, gA_setR, gB_setR, gJ_setR, gO_setR, gL_setA, gK_setA, gI_setA, gR_setA, gN_setA, gA_setA, gB_setA, gJ_setA, gO_setA, gL_setB, gK_setB, gI_setB, gR_setB, gN_setB, gA_setB, gB_setB, gJ_setB, gO_setB, gL_setJ, gK_setJ, gI_setJ, gR_setJ, gN_setJ, gA_setJ, gB_setJ, gJ_setJ, gO_setJ, gL_setC, gK_setC, gI_setC, gR_setC, gN_setC, gA_setC, gB_setC, gJ_setC, gO_setC, gK_mNew, gI_mNew, gR_mNew, gN_mNew, gA_mNew, gB_mNew, gJ_mNew]
            exact hJ _ _ _ _ _ _ (S_mrow (S_thrown (S_out (S_purse h hi _) _ _ _) _ _) (by unfold ak; omega) hi _) (I_3 hI _ _ ⟨p + c, h6, rfl⟩) b3
          · have h7 := pay2 hp hc h6
            simp [w_X5_pay, w_X5_pay_32, w_X6_pay, w_L_law_205, w_X5_findStreet, w_X5_findStreet_13, w_X6_isStreet, w_X6_in, w_X6_fails, w_X6_thrown, w_L_law_1347, vp0, cmpS, fd h, fm h, fs h hi, rg8 hi, fa_s h hi, e3, h3, h4, h5, h7, a1, a2, gL_setI, gK_setI, gI_setI, gR_setI, gN_setI, gA_setI, gB_setI, gJ_setI, gO_setI, gL_setR, gK_setR, gI_setR, gR_setR, gN_setR, gA_setR, gB_setR, gJ_setR, gO_setR, gL_setA, gK_setA, gI_setA, gR_setA, gN_setA, gA_setA, gB_setA, gJ_setA, gO_setA, gL_setB, gK_setB, gI_setB, gR_setB, gN_setB, gA_setB, gB_setB, gJ_setB, gO_setB, gL_setJ, gK_setJ, gI_setJ, gR_setJ, gN_setJ, gA_setJ, gB_setJ, gJ_setJ, gO_setJ, gL_setC, gK_setC, gI_setC, gR_setC, gN_setC, gA_setC, gB_setC, gJ_setC, gO_setC, gK_mNew, gI_mNew, gR_mNew, gN_mNew, gA_mNew, gB_mNew, gJ_mNew]
            exact hJ _ _ _ _ _ _ (S_thrown (S_thrown h _ _) _ _) hI b3
        · have h5 : 10000 < x2 := Int32.not_le.mp h4
          simp [w_X5_pay, w_X5_pay_32, w_X6_pay, w_L_law_205, w_X5_findStreet, w_X5_findStreet_13, w_X6_isStreet, w_X6_in, w_X6_fails, w_X6_thrown, w_L_law_1347, vp0, cmpS, fd h, fm h, fs h hi, rg8 hi, h3, h4, h5, a1, a2, gL_setI, gK_setI, gI_setI, gR_setI, gN_setI, gA_setI, gB_setI, gJ_setI, gO_setI, gL_setR, gK_setR, gI_setR, gR_setR, gN_setR, gA_setR, gB_setR, gJ_setR, gO_setR, gL_setA, gK_setA, gI_setA, gR_setA, gN_setA, gA_setA, gB_setA, gJ_setA, gO_setA, gL_setB, gK_setB, gI_setB, gR_setB, gN_setB, gA_setB, gB_setB, gJ_setB, gO_setB, gL_setJ, gK_setJ, gI_setJ, gR_setJ, gN_setJ, gA_setJ, gB_setJ, gJ_setJ, gO_setJ, gL_setC, gK_setC, gI_setC, gR_setC, gN_setC, gA_setC, gB_setC, gJ_setC, gO_setC, gK_mNew, gI_mNew, gR_mNew, gN_mNew, gA_mNew, gB_mNew, gJ_mNew]
          exact hJ _ _ _ _ _ _ (S_thrown (S_thrown h _ _) _ _) hI b3
end S2P
