section S2P
variable {B : Nat → Nat → Nat} {G : Ctx} {s s2 : Nat → Nat → Int32} {t : Nat → Nat → Nat} {ka : List Nat} {u : Mem}
theorem c_way (h : S2 B G s t ka s2 u) {i j : Nat} (hi : i < 8) (hj : j < 8) {K : Int32 → Mem → Prop} {X : String → Mem → Prop} (hK : K (nI (dst i j)) u) : w_X5_way G (B 0 0) (nI i) (nI j) 1 6 u K X := by
  simp [w_X5_way, w_X5_isStreet, rg8 hi, rg8 hj]
  exact c_dist hi hj hK
theorem m_way (h : S2 B G s t ka s2 u) {i j : Nat} (hi : i < 8) (hj : j < 8) {K : Int32 → Mem → Prop} (hK : K (nI (dst i j)) (setI u 224 (B 0 1) 0)) : w_X6_way G (B 0 1) (nI i) (nI j) u K := by
  simp [w_X6_way, w_X6_isStreet, w_X6_in, fm h, rg8 hi, rg8 hj]
  exact m_len hi hj hK
theorem p_1079 (L : Nat) (xs : Nat → Int32) (J : Nat → Nat → Nat → Int32 → Nat → Nat → Mem → Prop) {v4 : Int32} {mc ms q : Nat} (a1 : vp_in (v4 + 1) L) (a2 : vp_in (v4 + 2) L) (h : S2 B G s t ka s u) (hI : Iv s t ka) (hP : Pt (q + 1) mc ms t) (hJ : HJ B G q (J (B 0 0) (B 0 1) (B 0 2) (v4 + 4))) : w_L_law_1079 G L xs J (B 0 0) (B 0 1) (B 0 2) v4 mc ms u := by
  obtain ⟨b1, b2, b3, b4⟩ := Pt_1 hP
  refine ⟨a1, a2, 1, 6, b1, b2, ?_⟩
  generalize xs (v4 + 1).toNatClampNeg = x1
  generalize xs (v4 + 2).toNatClampNeg = x2
  refine ⟨1, 6, Nat.le_refl _, Nat.le_refl _, (fd h).1, ?_⟩
  by_cases n1 : x1 < 0
  · simp [w_X5_way, w_X5_way_14, w_X6_way, w_X6_way_27, w_X5_isStreet, w_L_law_1144, w_X6_isStreet, w_X6_isEscort, w_X6_isWalk, w_X6_in, w_X6_fails, w_X6_thrown, w_L_law_1347, vp0, cmpS, fd h, fm h, a1, a2, n1, gL_setI, gK_setI, gI_setI, gR_setI, gN_setI, gA_setI, gB_setI, gJ_setI, gO_setI, gL_setR, gK_setR, gI_setR, gR_setR, gN_setR, gA_setR, gB_setR, gJ_setR, gO_setR, gL_setA, gK_setA, gI_setA, gR_setA, gN_setA, gA_setA, gB_setA, gJ_setA, gO_setA, gL_setB, gK_setB, gI_setB, gR_setB, gN_setB, gA_setB, gB_setB, gJ_setB, gO_setB, gL_setJ, gK_setJ, gI_setJ, gR_setJ, gN_setJ, gA_setJ, gB_setJ, gJ_setJ, gO_setJ, gL_setC, gK_setC, gI_setC, gR_setC, gN_setC, gA_setC, gB_setC, gJ_setC, gO_setC, gK_mNew, gI_mNew, gR_mNew, gN_mNew, gA_mNew, gB_mNew, gJ_mNew]
    exact hJ _ _ _ _ _ _ (S_thrown (S_thrown h _ _) _ _) hI b3
  · by_cases m1 : nI 8 ≤ x1
    · have o1 := og8 m1
      simp [w_X5_way, w_X5_way_14, w_X6_way, w_X6_way_27, w_X5_isStreet, w_L_law_1144, w_X6_isStreet, w_X6_isEscort, w_X6_isWalk, w_X6_in, w_X6_fails, w_X6_thrown, w_L_law_1347, vp0, cmpS, fd h, fm h, a1, a2, n1, o1, gL_setI, gK_setI, gI_setI, gR_setI, gN_setI, gA_setI, gB_setI, gJ_setI, gO_setI, gL_setR, gK_setR, gI_setR, gR_setR, gN_setR, gA_setR, gB_setR, gJ_setR, gO_setR, gL_setA, gK_setA, gI_setA, gR_setA, gN_setA, gA_setA, gB_setA, gJ_setA, gO_setA, gL_setB, gK_setB, gI_setB, gR_setB, gN_setB, gA_setB, gB_setB, gJ_setB, gO_setB, gL_setJ, gK_setJ, gI_setJ, gR_setJ, gN_setJ, gA_setJ, gB_setJ, gJ_setJ, gO_setJ, gL_setC, gK_setC, gI_setC, gR_setC, gN_setC, gA_setC, gB_setC, gJ_setC, gO_setC, gK_mNew, gI_mNew, gR_mNew, gN_mNew, gA_mNew, gB_mNew, gJ_mNew]
      exact hJ _ _ _ _ _ _ (S_thrown (S_thrown h _ _) _ _) hI b3
    · obtain ⟨i, hi, rfl⟩ := in8 (by decide) n1 m1
      by_cases n2 : x2 < 0
      · simp [w_X5_way, w_X5_way_14, w_X6_way, w_X6_way_27, w_X5_isStreet, w_L_law_1144, w_X6_isStreet, w_X6_isEscort, w_X6_isWalk, w_X6_in, w_X6_fails, w_X6_thrown, w_L_law_1347, vp0, cmpS, fd h, fm h, a1, a2, rg8 hi, n2, gL_setI, gK_setI, gI_setI, gR_setI, gN_setI, gA_setI, gB_setI, gJ_setI, gO_setI, gL_setR, gK_setR, gI_setR, gR_setR, gN_setR, gA_setR, gB_setR, gJ_setR, gO_setR, gL_setA, gK_setA, gI_setA, gR_setA, gN_setA, gA_setA, gB_setA, gJ_setA, gO_setA, gL_setB, gK_setB, gI_setB, gR_setB, gN_setB, gA_setB, gB_setB, gJ_setB, gO_setB, gL_setJ, gK_setJ, gI_setJ, gR_setJ, gN_setJ, gA_setJ, gB_setJ, gJ_setJ, gO_setJ, gL_setC, gK_setC, gI_setC, gR_setC, gN_setC, gA_setC, gB_setC, gJ_setC, gO_setC, gK_mNew, gI_mNew, gR_mNew, gN_mNew, gA_mNew, gB_mNew, gJ_mNew]
        exact hJ _ _ _ _ _ _ (S_thrown (S_thrown h _ _) _ _) hI b3
      · by_cases m2 : nI 8 ≤ x2
        · have o2 := og8 m2
          simp [w_X5_way, w_X5_way_14, w_X6_way, w_X6_way_27, w_X5_isStreet, w_L_law_1144, w_X6_isStreet, w_X6_isEscort, w_X6_isWalk, w_X6_in, w_X6_fails, w_X6_thrown, w_L_law_1347, vp0, cmpS, fd h, fm h, a1, a2, rg8 hi, n2, o2, gL_setI, gK_setI, gI_setI, gR_setI, gN_setI, gA_setI, gB_setI, gJ_setI, gO_setI, gL_setR, gK_setR, gI_setR, gR_setR, gN_setR, gA_setR, gB_setR, gJ_setR, gO_setR, gL_setA, gK_setA, gI_setA, gR_setA, gN_setA, gA_setA, gB_setA, gJ_setA, gO_setA, gL_setB, gK_setB, gI_setB, gR_setB, gN_setB, gA_setB, gB_setB, gJ_setB, gO_setB, gL_setJ, gK_setJ, gI_setJ, gR_setJ, gN_setJ, gA_setJ, gB_setJ, gJ_setJ, gO_setJ, gL_setC, gK_setC, gI_setC, gR_setC, gN_setC, gA_setC, gB_setC, gJ_setC, gO_setC, gK_mNew, gI_mNew, gR_mNew, gN_mNew, gA_mNew, gB_mNew, gJ_mNew]
          exact hJ _ _ _ _ _ _ (S_thrown (S_thrown h _ _) _ _) hI b3
        · obtain ⟨j, hj, rfl⟩ := in8 (by decide) n2 m2
          refine c_way h hi hj (out1 h (fun hS hO => ⟨a1, a2, (fm hS).1, m_way hS hi hj ?_⟩))
          refine fin1 (A := w_L_law_1144 G L xs J (B 0 0) (B 0 1) (B 0 2) v4 (mc - 1) (ms - 6)) (S_thrown hS _ _) ?_ (fun _ => hO) (hJ _ _ _ _ _ _ (S_thrown hS _ _) hI b3)
          simp [gI_setI]
theorem c_vote (h : S2 B G s t ka s2 u) {i j d a b c : Nat} (hi : i < 8) (hj : j < 3) (hd : 1 ≤ d ∧ d ≤ 30) (ea : up2 s 6 (3 * i + j) (nI d) 6 (3 * i) = nI a) (eb : up2 s 6 (3 * i + j) (nI d) 6 (3 * i + 1) = nI b) (ec : up2 s 6 (3 * i + j) (nI d) 6 (3 * i + 2) = nI c) (ha : 1 ≤ a ∧ a ≤ 30) (hb : 1 ≤ b ∧ b ≤ 30) (hc : 1 ≤ c ∧ c ≤ 30) {K : Int32 → Mem → Prop} {X : String → Mem → Prop} (hK : K (nI (med a b c)) (setA u (B 2 i) j (nI d))) : w_X5_vote G (B 0 0) (nI i) (nI j) (nI d) 1 6 u K X := by
  have e1 : ¬ (nI d < (1 : Int32)) := nI_nlt (a := d) (b := 1) (by omega) (by omega)
  have e2 : nI d ≤ (30 : Int32) := nI_le (a := d) (b := 30) (by omega) (by omega)
  have e3 : ¬ (nI 3 ≤ nI j) := by rw [nI_leI (by omega) (by omega)]; omega
  refine ⟨(fd h).1, c_str h hi ?_⟩
  simp [w_X3_setVote, fs h hi, rg3 hj, e1, e2, e3]
  exact ⟨(fs (S_vote h hi hj (nI d)) hi).2.1, c_days (S_vote h hi hj (nI d)) hi ea eb ec ha hb hc hK⟩
theorem m_vote (h : S2 B G s t ka s2 u) {i j d a b c : Nat} (hi : i < 8) (hj : j < 3) (hd : 1 ≤ d ∧ d ≤ 30) (ea : up2 s2 6 (3 * i + j) (nI d) 6 (3 * i) = nI a) (eb : up2 s2 6 (3 * i + j) (nI d) 6 (3 * i + 1) = nI b) (ec : up2 s2 6 (3 * i + j) (nI d) 6 (3 * i + 2) = nI c) (ha : 1 ≤ a ∧ a ≤ 30) (hb : 1 ≤ b ∧ b ≤ 30) (hc : 1 ≤ c ∧ c ≤ 30) {K : Int32 → Mem → Prop} (hK : K (nI (med a b c)) (setA (setI u 224 (B 0 1) 0) (B 4 6) (3 * i + j) (nI d))) : w_X6_vote G (B 0 1) (nI i) (nI j) (nI d) u K := by
  have e1 : ¬ (nI d < (1 : Int32)) := nI_nlt (a := d) (b := 1) (by omega) (by omega)
  have e2 : ¬ ((30 : Int32) < nI d) := nI_nlt (a := 30) (b := d) (by omega) (by omega)
  have k0 : (3 : Int32) * nI i + nI j = nI (3 * i + j) := by rw [show (3 : Int32) * nI i = nI (3 * i) from pk_mul 3 i, nI_add]
  have k1 := nIc (i := 3 * i + j) (N := 24) (by omega) (by decide)
  have k2 := vp_in_nI (n := 3 * i + j) (N := 24) (by omega) (by decide)
  have hS := S_mrow (S_thrown h (B 0 1) 0) (k0 := 6) (i := 3 * i + j) (by unfold ak; omega) (by show 3 * i + j < 24; omega) (nI d)
  simp [w_X6_vote, w_X6_isStreet, w_X6_in, fm h, rg8 hi, rg3 hj, e1, e2, k0, k1, k2, gI_setI, gO_setI, gR_setI, gN_setI, gO_setA]
  exact m_mid hS hi ea eb ec ha hb hc hK
theorem p_304 (L : Nat) (xs : Nat → Int32) (J : Nat → Nat → Nat → Int32 → Nat → Nat → Mem → Prop) {v4 : Int32} {mc ms q : Nat} (a1 : vp_in (v4 + 1) L) (a2 : vp_in (v4 + 2) L) (a3 : vp_in (v4 + 3) L) (h : S2 B G s t ka s u) (hI : Iv s t ka) (hP : Pt (q + 1) mc ms t) (hJ : HJ B G q (J (B 0 0) (B 0 1) (B 0 2) (v4 + 4))) : w_L_law_304 G L xs J (B 0 0) (B 0 1) (B 0 2) v4 mc ms u := by
  obtain ⟨b1, b2, b3, b4⟩ := Pt_1 hP
  refine ⟨a1, a2, a3, 1, 6, b1, b2, ?_⟩
  generalize xs (v4 + 1).toNatClampNeg = x1
  generalize xs (v4 + 2).toNatClampNeg = x2
  generalize xs (v4 + 3).toNatClampNeg = x3
  refine ⟨1, 6, Nat.le_refl _, Nat.le_refl _, (fd h).1, ?_⟩
  by_cases n1 : x1 < 0
  · simp [w_X5_vote, w_X5_vote_31, w_X5_vote_52, w_X6_vote, w_X6_vote_21, w_X5_findStreet, w_X5_findStreet_13, w_L_law_381, w_X6_isStreet, w_X6_isEscort, w_X6_isWalk, w_X6_in, w_X6_fails, w_X6_thrown, w_L_law_1347, vp0, cmpS, fd h, fm h, a1, a2, a3, n1, gL_setI, gK_setI, gI_setI, gR_setI, gN_setI, gA_setI, gB_setI, gJ_setI, gO_setI, gL_setR, gK_setR, gI_setR, gR_setR, gN_setR, gA_setR, gB_setR, gJ_setR, gO_setR, gL_setA, gK_setA, gI_setA, gR_setA, gN_setA, gA_setA, gB_setA, gJ_setA, gO_setA, gL_setB, gK_setB, gI_setB, gR_setB, gN_setB, gA_setB, gB_setB, gJ_setB, gO_setB, gL_setJ, gK_setJ, gI_setJ, gR_setJ, gN_setJ, gA_setJ, gB_setJ, gJ_setJ, gO_setJ, gL_setC, gK_setC, gI_setC, gR_setC, gN_setC, gA_setC, gB_setC, gJ_setC, gO_setC, gK_mNew, gI_mNew, gR_mNew, gN_mNew, gA_mNew, gB_mNew, gJ_mNew]
    exact hJ _ _ _ _ _ _ (S_thrown (S_thrown h _ _) _ _) hI b3
  · by_cases m1 : nI 8 ≤ x1
    · have o1 := og8 m1
      simp [w_X5_vote, w_X5_vote_31, w_X5_vote_52, w_X6_vote, w_X6_vote_21, w_X5_findStreet, w_X5_findStreet_13, w_L_law_381, w_X6_isStreet, w_X6_isEscort, w_X6_isWalk, w_X6_in, w_X6_fails, w_X6_thrown, w_L_law_1347, vp0, cmpS, fd h, fm h, a1, a2, a3, n1, o1, gL_setI, gK_setI, gI_setI, gR_setI, gN_setI, gA_setI, gB_setI, gJ_setI, gO_setI, gL_setR, gK_setR, gI_setR, gR_setR, gN_setR, gA_setR, gB_setR, gJ_setR, gO_setR, gL_setA, gK_setA, gI_setA, gR_setA, gN_setA, gA_setA, gB_setA, gJ_setA, gO_setA, gL_setB, gK_setB, gI_setB, gR_setB, gN_setB, gA_setB, gB_setB, gJ_setB, gO_setB, gL_setJ, gK_setJ, gI_setJ, gR_setJ, gN_setJ, gA_setJ, gB_setJ, gJ_setJ, gO_setJ, gL_setC, gK_setC, gI_setC, gR_setC, gN_setC, gA_setC, gB_setC, gJ_setC, gO_setC, gK_mNew, gI_mNew, gR_mNew, gN_mNew, gA_mNew, gB_mNew, gJ_mNew]
      exact hJ _ _ _ _ _ _ (S_thrown (S_thrown h _ _) _ _) hI b3
    · obtain ⟨i, hi, rfl⟩ := in8 (by decide) n1 m1
      by_cases n2 : x2 < 0
      · simp [w_X5_vote, w_X5_vote_31, w_X5_vote_52, w_X6_vote, w_X6_vote_21, w_X5_findStreet, w_X5_findStreet_13, w_L_law_381, w_X6_isStreet, w_X6_isEscort, w_X6_isWalk, w_X6_in, w_X6_fails, w_X6_thrown, w_L_law_1347, vp0, cmpS, fd h, fm h, a1, a2, a3, fs h hi, rg8 hi, n2, gL_setI, gK_setI, gI_setI, gR_setI, gN_setI, gA_setI, gB_setI, gJ_setI, gO_setI, gL_setR, gK_setR, gI_setR, gR_setR, gN_setR, gA_setR, gB_setR, gJ_setR, gO_setR, gL_setA, gK_setA, gI_setA, gR_setA, gN_setA, gA_setA, gB_setA, gJ_setA, gO_setA, gL_setB, gK_setB, gI_setB, gR_setB, gN_setB, gA_setB, gB_setB, gJ_setB, gO_setB, gL_setJ, gK_setJ, gI_setJ, gR_setJ, gN_setJ, gA_setJ, gB_setJ, gJ_setJ, gO_setJ, gL_setC, gK_setC, gI_setC, gR_setC, gN_setC, gA_setC, gB_setC, gJ_setC, gO_setC, gK_mNew, gI_mNew, gR_mNew, gN_mNew, gA_mNew, gB_mNew, gJ_mNew]
        exact hJ _ _ _ _ _ _ (S_thrown (S_thrown h _ _) _ _) hI b3
      · by_cases m2 : nI 3 ≤ x2
        · have o2 := og3 m2
          simp [w_X5_vote, w_X5_vote_31, w_X5_vote_52, w_X6_vote, w_X6_vote_21, w_X5_findStreet, w_X5_findStreet_13, w_L_law_381, w_X6_isStreet, w_X6_isEscort, w_X6_isWalk, w_X6_in, w_X6_fails, w_X6_thrown, w_L_law_1347, vp0, cmpS, fd h, fm h, a1, a2, a3, fs h hi, rg8 hi, n2, o2, gL_setI, gK_setI, gI_setI, gR_setI, gN_setI, gA_setI, gB_setI, gJ_setI, gO_setI, gL_setR, gK_setR, gI_setR, gR_setR, gN_setR, gA_setR, gB_setR, gJ_setR, gO_setR, gL_setA, gK_setA, gI_setA, gR_setA, gN_setA, gA_setA, gB_setA, gJ_setA, gO_setA, gL_setB, gK_setB, gI_setB, gR_setB, gN_setB, gA_setB, gB_setB, gJ_setB, gO_setB, gL_setJ, gK_setJ, gI_setJ, gR_setJ, gN_setJ, gA_setJ, gB_setJ, gJ_setJ, gO_setJ, gL_setC, gK_setC, gI_setC, gR_setC, gN_setC, gA_setC, gB_setC, gJ_setC, gO_setC, gK_mNew, gI_mNew, gR_mNew, gN_mNew, gA_mNew, gB_mNew, gJ_mNew]
          exact hJ _ _ _ _ _ _ (S_thrown (S_thrown h _ _) _ _) hI b3
        · obtain ⟨j, hj, rfl⟩ := in8 (by decide) n2 m2
          by_cases n3 : x3 < 1
          · simp [w_X5_vote, w_X5_vote_31, w_X5_vote_52, w_X6_vote, w_X6_vote_21, w_X5_findStreet, w_X5_findStreet_13, w_L_law_381, w_X6_isStreet, w_X6_isEscort, w_X6_isWalk, w_X6_in, w_X6_fails, w_X6_thrown, w_L_law_1347, vp0, cmpS, fd h, fm h, a1, a2, a3, fs h hi, rg8 hi, rg3 hj, n3, gL_setI, gK_setI, gI_setI, gR_setI, gN_setI, gA_setI, gB_setI, gJ_setI, gO_setI, gL_setR, gK_setR, gI_setR, gR_setR, gN_setR, gA_setR, gB_setR, gJ_setR, gO_setR, gL_setA, gK_setA, gI_setA, gR_setA, gN_setA, gA_setA, gB_setA, gJ_setA, gO_setA, gL_setB, gK_setB, gI_setB, gR_setB, gN_setB, gA_setB, gB_setB, gJ_setB, gO_setB, gL_setJ, gK_setJ, gI_setJ, gR_setJ, gN_setJ, gA_setJ, gB_setJ, gJ_setJ, gO_setJ, gL_setC, gK_setC, gI_setC, gR_setC, gN_setC, gA_setC, gB_setC, gJ_setC, gO_setC, gK_mNew, gI_mNew, gR_mNew, gN_mNew, gA_mNew, gB_mNew, gJ_mNew]
            exact hJ _ _ _ _ _ _ (S_thrown (S_thrown h _ _) _ _) hI b3
          · by_cases m3 : x3 ≤ 30
            · obtain ⟨d, hd, rfl⟩ := nI_of2 (n := 30) (M := 30) (by decide) (fun z => n3 (Int32.lt_trans z (by decide))) m3
              have hd1 : 1 ≤ d := by
                rcases Nat.eq_zero_or_pos d with z | z
                · subst z; exact absurd (by decide) n3
                · exact z
              have hI' := I_6 hI (3 * i + j) (nI d) ⟨d, hd1, hd, rfl⟩
              obtain ⟨a, ha1, ha2, ea⟩ := hI'.2.2.2.1 (3 * i) (by omega)
              obtain ⟨b, hb1, hb2, eb⟩ := hI'.2.2.2.1 (3 * i + 1) (by omega)
              obtain ⟨c, hc1, hc2, ec⟩ := hI'.2.2.2.1 (3 * i + 2) (by omega)
              refine c_vote h hi hj ⟨hd1, hd⟩ ea eb ec ⟨ha1, ha2⟩ ⟨hb1, hb2⟩ ⟨hc1, hc2⟩ (out1 (S_vote h hi hj _) (fun hS hO => ⟨a1, a2, a3, (fm hS).1, m_vote hS hi hj ⟨hd1, hd⟩ ea eb ec ⟨ha1, ha2⟩ ⟨hb1, hb2⟩ ⟨hc1, hc2⟩ ?_⟩))
              have hS2 := S_mrow (S_thrown hS (B 0 1) 0) (k0 := 6) (i := 3 * i + j) (by unfold ak; omega) (by show 3 * i + j < 24; omega) (nI d)
              refine fin1 (A := w_L_law_381 G L xs J (B 0 0) (B 0 1) (B 0 2) v4 (mc - 1) (ms - 6)) hS2 ?_ (fun _ => hO) (hJ _ _ _ _ _ _ hS2 hI' b3)
              simp [gI_setI, gI_setA]
            · have o3 : (30 : Int32) < x3 := Int32.not_le.mp m3
              simp [w_X5_vote, w_X5_vote_31, w_X5_vote_52, w_X6_vote, w_X6_vote_21, w_X5_findStreet, w_X5_findStreet_13, w_L_law_381, w_X6_isStreet, w_X6_isEscort, w_X6_isWalk, w_X6_in, w_X6_fails, w_X6_thrown, w_L_law_1347, vp0, cmpS, fd h, fm h, a1, a2, a3, fs h hi, rg8 hi, rg3 hj, n3, m3, o3, gL_setI, gK_setI, gI_setI, gR_setI, gN_setI, gA_setI, gB_setI, gJ_setI, gO_setI, gL_setR, gK_setR, gI_setR, gR_setR, gN_setR, gA_setR, gB_setR, gJ_setR, gO_setR, gL_setA, gK_setA, gI_setA, gR_setA, gN_setA, gA_setA, gB_setA, gJ_setA, gO_setA, gL_setB, gK_setB, gI_setB, gR_setB, gN_setB, gA_setB, gB_setB, gJ_setB, gO_setB, gL_setJ, gK_setJ, gI_setJ, gR_setJ, gN_setJ, gA_setJ, gB_setJ, gJ_setJ, gO_setJ, gL_setC, gK_setC, gI_setC, gR_setC, gN_setC, gA_setC, gB_setC, gJ_setC, gO_setC, gK_mNew, gI_mNew, gR_mNew, gN_mNew, gA_mNew, gB_mNew, gJ_mNew]
              exact hJ _ _ _ _ _ _ (S_thrown (S_thrown h _ _) _ _) hI b3
end S2P
