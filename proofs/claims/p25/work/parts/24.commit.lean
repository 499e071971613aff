section S2C
variable {B : Nat → Nat → Nat} {G : Ctx} {s s2 : Nat → Nat → Int32} {t : Nat → Nat → Nat} {ka : List Nat} {u : Mem}
theorem S_cwalk (h : S2 B G s t ka s2 u) {e : Nat} {f d : Int32} (hn : t 3 0 < t 5 0) (ha : mB u (t 4 0) (t 3 0) = some e) (oe : OB u e 5) (e0 : mI u 160 e = nI (t 3 0)) (e1 : mI u 161 e = f) (e2 : mI u 162 e = d) (e3 : mI u 163 e = 0) (e4 : mR u 164 e = none) (e5 : mI u 165 e = 0) (e6 : mI u 166 e = 0) (hf : ∀ w, w < t 3 0 → t 0 w ≠ e) (z3 : s 13 (t 3 0) = 0) (z5 : s 15 (t 3 0) = 0) (z6 : s 16 (t 3 0) = 0) : S2 B G (up2 (up2 (up2 (up2 s 11 (t 3 0) f) 12 (t 3 0) d) 14 (t 3 0) (-1)) 10 0 (nI (t 3 0 + 1))) (tu (tu t 0 (t 3 0) e) 3 0 (t 3 0 + 1)) ka s2 (setI u 2 (B 0 5) (nI (t 3 0 + 1))) := by
  obtain ⟨hd, hs, he, hw, hp, h0, h1, h2, hm, ho, hx, hB⟩ := h
  have hB0 := hB
  obtain ⟨b1, b2, b3, b4, b5, b57, b58, b78⟩ := hB0
  have hx0 := hx
  obtain ⟨x1, x2, x3, x4, x5, x6⟩ := hx0
  refine ⟨?_, ?_, ?_, ?_, ?_, ?_, ?_, ?_, ?_, ?_, ?_, hB⟩
  · simpa [Sd, up2, tu_at, gL_setI, gK_setI, gI_setI, gR_setI, gN_setI, gA_setI, gB_setI, gJ_setI, gO_setI, gL_setR, gK_setR, gI_setR, gR_setR, gN_setR, gA_setR, gB_setR, gJ_setR, gO_setR, gL_setA, gK_setA, gI_setA, gR_setA, gN_setA, gA_setA, gB_setA, gJ_setA, gO_setA, gL_setB, gK_setB, gI_setB, gR_setB, gN_setB, gA_setB, gB_setB, gJ_setB, gO_setB, gL_setJ, gK_setJ, gI_setJ, gR_setJ, gN_setJ, gA_setJ, gB_setJ, gJ_setJ, gO_setJ, gL_setC, gK_setC, gI_setC, gR_setC, gN_setC, gA_setC, gB_setC, gJ_setC, gO_setC, gK_mNew, gI_mNew, gR_mNew, gN_mNew, gA_mNew, gB_mNew, gJ_mNew] using hd
  · simpa [Ss, up2, tu_at, gL_setI, gK_setI, gI_setI, gR_setI, gN_setI, gA_setI, gB_setI, gJ_setI, gO_setI, gL_setR, gK_setR, gI_setR, gR_setR, gN_setR, gA_setR, gB_setR, gJ_setR, gO_setR, gL_setA, gK_setA, gI_setA, gR_setA, gN_setA, gA_setA, gB_setA, gJ_setA, gO_setA, gL_setB, gK_setB, gI_setB, gR_setB, gN_setB, gA_setB, gB_setB, gJ_setB, gO_setB, gL_setJ, gK_setJ, gI_setJ, gR_setJ, gN_setJ, gA_setJ, gB_setJ, gJ_setJ, gO_setJ, gL_setC, gK_setC, gI_setC, gR_setC, gN_setC, gA_setC, gB_setC, gJ_setC, gO_setC, gK_mNew, gI_mNew, gR_mNew, gN_mNew, gA_mNew, gB_mNew, gJ_mNew] using hs
  · simpa [Se, up2, tu_at, gL_setI, gK_setI, gI_setI, gR_setI, gN_setI, gA_setI, gB_setI, gJ_setI, gO_setI, gL_setR, gK_setR, gI_setR, gR_setR, gN_setR, gA_setR, gB_setR, gJ_setR, gO_setR, gL_setA, gK_setA, gI_setA, gR_setA, gN_setA, gA_setA, gB_setA, gJ_setA, gO_setA, gL_setB, gK_setB, gI_setB, gR_setB, gN_setB, gA_setB, gB_setB, gJ_setB, gO_setB, gL_setJ, gK_setJ, gI_setJ, gR_setJ, gN_setJ, gA_setJ, gB_setJ, gJ_setJ, gO_setJ, gL_setC, gK_setC, gI_setC, gR_setC, gN_setC, gA_setC, gB_setC, gJ_setC, gO_setC, gK_mNew, gI_mNew, gR_mNew, gN_mNew, gA_mNew, gB_mNew, gJ_mNew] using he
  · intro w hw1
    have hw1 : w < t 3 0 + 1 := by simpa [tu_at] using hw1
    by_cases hc : w = t 3 0
    · subst hc
      simp [up2, tu_at, gO_setI, gI_setI, gR_setI, oe, e0, e1, e2, e3, e4, e5, e6, z3, z5, z6]
    · have hw2 : w < t 3 0 := by omega
      have h9 := hw w hw2
      simp [up2, tu_at, hc, gO_setI, gI_setI, gR_setI, h9]
  · simpa [Sp, up2, tu_at, gL_setI, gK_setI, gI_setI, gR_setI, gN_setI, gA_setI, gB_setI, gJ_setI, gO_setI, gL_setR, gK_setR, gI_setR, gR_setR, gN_setR, gA_setR, gB_setR, gJ_setR, gO_setR, gL_setA, gK_setA, gI_setA, gR_setA, gN_setA, gA_setA, gB_setA, gJ_setA, gO_setA, gL_setB, gK_setB, gI_setB, gR_setB, gN_setB, gA_setB, gB_setB, gJ_setB, gO_setB, gL_setJ, gK_setJ, gI_setJ, gR_setJ, gN_setJ, gA_setJ, gB_setJ, gJ_setJ, gO_setJ, gL_setC, gK_setC, gI_setC, gR_setC, gN_setC, gA_setC, gB_setC, gJ_setC, gO_setC, gK_mNew, gI_mNew, gR_mNew, gN_mNew, gA_mNew, gB_mNew, gJ_mNew] using hp
  · obtain ⟨l1, l2, l3, l4, l5, l6, l7⟩ := h0
    refine ⟨l1, l2, by simp [gI_setI, tu_at], by simpa [tu_at, gO_setI, gN_setI] using l4, by simp [tu_at]; omega, by simpa [tu_at] using l6, fun i hi => ?_⟩
    have hi : i < t 3 0 + 1 := by simpa [tu_at] using hi
    by_cases hc : i = t 3 0
    · subst hc; simpa [tu_at, gB_setI] using ha
    · simpa [tu_at, hc, gB_setI] using l7 i (by omega)
  · obtain ⟨l1, l2, l3, l4, l5, l6, l7⟩ := h1
    have hne : B 0 7 ≠ B 0 5 := Ne.symm b57
    refine ⟨l1, l2, by simp [gI_setI, tu_at, hne, l3], by simpa [tu_at, gO_setI, gN_setI] using l4, by simpa [tu_at] using l5, by simpa [tu_at] using l6, fun i hi => ?_⟩
    have hi : i < t 3 1 := by simpa [tu_at] using hi
    simpa [tu_at, gB_setI] using l7 i hi
  · obtain ⟨l1, l2, l3, l4, l5, l6, l7⟩ := h2
    have hne : B 0 8 ≠ B 0 5 := Ne.symm b58
    refine ⟨l1, l2, by simp [gI_setI, tu_at, hne, l3], by simpa [tu_at, gO_setI, gN_setI] using l4, by simpa [tu_at] using l5, by simpa [tu_at] using l6, fun i hi => ?_⟩
    have hi : i < ka.length := by simpa [tu_at] using hi
    simpa [tu_at, gB_setI] using l7 i hi
  · simpa [Sm, up2, tu_at, gL_setI, gK_setI, gI_setI, gR_setI, gN_setI, gA_setI, gB_setI, gJ_setI, gO_setI, gL_setR, gK_setR, gI_setR, gR_setR, gN_setR, gA_setR, gB_setR, gJ_setR, gO_setR, gL_setA, gK_setA, gI_setA, gR_setA, gN_setA, gA_setA, gB_setA, gJ_setA, gO_setA, gL_setB, gK_setB, gI_setB, gR_setB, gN_setB, gA_setB, gB_setB, gJ_setB, gO_setB, gL_setJ, gK_setJ, gI_setJ, gR_setJ, gN_setJ, gA_setJ, gB_setJ, gJ_setJ, gO_setJ, gL_setC, gK_setC, gI_setC, gR_setC, gN_setC, gA_setC, gB_setC, gJ_setC, gO_setC, gK_mNew, gI_mNew, gR_mNew, gN_mNew, gA_mNew, gB_mNew, gJ_mNew] using hm
  · simpa [So, up2, tu_at, gL_setI, gK_setI, gI_setI, gR_setI, gN_setI, gA_setI, gB_setI, gJ_setI, gO_setI, gL_setR, gK_setR, gI_setR, gR_setR, gN_setR, gA_setR, gB_setR, gJ_setR, gO_setR, gL_setA, gK_setA, gI_setA, gR_setA, gN_setA, gA_setA, gB_setA, gJ_setA, gO_setA, gL_setB, gK_setB, gI_setB, gR_setB, gN_setB, gA_setB, gB_setB, gJ_setB, gO_setB, gL_setJ, gK_setJ, gI_setJ, gR_setJ, gN_setJ, gA_setJ, gB_setJ, gJ_setJ, gO_setJ, gL_setC, gK_setC, gI_setC, gR_setC, gN_setC, gA_setC, gB_setC, gJ_setC, gO_setC, gK_mNew, gI_mNew, gR_mNew, gN_mNew, gA_mNew, gB_mNew, gJ_mNew] using ho
  · refine ⟨fun i j hi hj hij => ?_, by simpa [tu_at] using x2, by simpa [tu_at] using x3, by simpa [tu_at] using x4, by simpa [tu_at] using x5, by simpa [tu_at] using x6⟩
    have hi : i < t 3 0 + 1 := by simpa [tu_at] using hi
    have hj : j < t 3 0 + 1 := by simpa [tu_at] using hj
    by_cases hc : i = t 3 0 <;> by_cases hc2 : j = t 3 0
    · omega
    · rw [hc] at hij; simp [tu_at, hc2] at hij; exact absurd hij.symm (hf j (by omega))
    · rw [hc2] at hij; simp [tu_at, hc] at hij; exact absurd hij (hf i (by omega))
    · simp [tu_at, hc, hc2] at hij; exact x1 i j (by omega) (by omega) hij
theorem S_cpaper (h : S2 B G s t ka s2 u) {e : Nat} {c0 c1 c2 c3 : Int32} (hn : t 3 1 < t 5 1) (ha : mB u (t 4 1) (t 3 1) = some e) (oe : OB u e 3) (e0 : mI u 96 e = c0) (e1 : mI u 97 e = c1) (e2 : mI u 98 e = c2) (e3 : mI u 99 e = c3) (hf : ∀ w, w < t 3 1 → t 1 w ≠ e) : S2 B G (up2 (up2 (up2 (up2 (up2 s 18 (t 3 1) c0) 19 (t 3 1) c1) 20 (t 3 1) c2) 21 (t 3 1) c3) 17 0 (nI (t 3 1 + 1))) (tu (tu t 1 (t 3 1) e) 3 1 (t 3 1 + 1)) ka s2 (setI u 2 (B 0 7) (nI (t 3 1 + 1))) := by
  obtain ⟨hd, hs, he, hw, hp, h0, h1, h2, hm, ho, hx, hB⟩ := h
  have hB0 := hB
  obtain ⟨b1, b2, b3, b4, b5, b57, b58, b78⟩ := hB0
  have hx0 := hx
  obtain ⟨x1, x2, x3, x4, x5, x6⟩ := hx0
  refine ⟨?_, ?_, ?_, ?_, ?_, ?_, ?_, ?_, ?_, ?_, ?_, hB⟩
  · simpa [Sd, up2, tu_at, gL_setI, gK_setI, gI_setI, gR_setI, gN_setI, gA_setI, gB_setI, gJ_setI, gO_setI, gL_setR, gK_setR, gI_setR, gR_setR, gN_setR, gA_setR, gB_setR, gJ_setR, gO_setR, gL_setA, gK_setA, gI_setA, gR_setA, gN_setA, gA_setA, gB_setA, gJ_setA, gO_setA, gL_setB, gK_setB, gI_setB, gR_setB, gN_setB, gA_setB, gB_setB, gJ_setB, gO_setB, gL_setJ, gK_setJ, gI_setJ, gR_setJ, gN_setJ, gA_setJ, gB_setJ, gJ_setJ, gO_setJ, gL_setC, gK_setC, gI_setC, gR_setC, gN_setC, gA_setC, gB_setC, gJ_setC, gO_setC, gK_mNew, gI_mNew, gR_mNew, gN_mNew, gA_mNew, gB_mNew, gJ_mNew] using hd
  · simpa [Ss, up2, tu_at, gL_setI, gK_setI, gI_setI, gR_setI, gN_setI, gA_setI, gB_setI, gJ_setI, gO_setI, gL_setR, gK_setR, gI_setR, gR_setR, gN_setR, gA_setR, gB_setR, gJ_setR, gO_setR, gL_setA, gK_setA, gI_setA, gR_setA, gN_setA, gA_setA, gB_setA, gJ_setA, gO_setA, gL_setB, gK_setB, gI_setB, gR_setB, gN_setB, gA_setB, gB_setB, gJ_setB, gO_setB, gL_setJ, gK_setJ, gI_setJ, gR_setJ, gN_setJ, gA_setJ, gB_setJ, gJ_setJ, gO_setJ, gL_setC, gK_setC, gI_setC, gR_setC, gN_setC, gA_setC, gB_setC, gJ_setC, gO_setC, gK_mNew, gI_mNew, gR_mNew, gN_mNew, gA_mNew, gB_mNew, gJ_mNew] using hs
  · simpa [Se, up2, tu_at, gL_setI, gK_setI, gI_setI, gR_setI, gN_setI, gA_setI, gB_setI, gJ_setI, gO_setI, gL_setR, gK_setR, gI_setR, gR_setR, gN_setR, gA_setR, gB_setR, gJ_setR, gO_setR, gL_setA, gK_setA, gI_setA, gR_setA, gN_setA, gA_setA, gB_setA, gJ_setA, gO_setA, gL_setB, gK_setB, gI_setB, gR_setB, gN_setB, gA_setB, gB_setB, gJ_setB, gO_setB, gL_setJ, gK_setJ, gI_setJ, gR_setJ, gN_setJ, gA_setJ, gB_setJ, gJ_setJ, gO_setJ, gL_setC, gK_setC, gI_setC, gR_setC, gN_setC, gA_setC, gB_setC, gJ_setC, gO_setC, gK_mNew, gI_mNew, gR_mNew, gN_mNew, gA_mNew, gB_mNew, gJ_mNew] using he
  · simpa [Sw, up2, tu_at, gL_setI, gK_setI, gI_setI, gR_setI, gN_setI, gA_setI, gB_setI, gJ_setI, gO_setI, gL_setR, gK_setR, gI_setR, gR_setR, gN_setR, gA_setR, gB_setR, gJ_setR, gO_setR, gL_setA, gK_setA, gI_setA, gR_setA, gN_setA, gA_setA, gB_setA, gJ_setA, gO_setA, gL_setB, gK_setB, gI_setB, gR_setB, gN_setB, gA_setB, gB_setB, gJ_setB, gO_setB, gL_setJ, gK_setJ, gI_setJ, gR_setJ, gN_setJ, gA_setJ, gB_setJ, gJ_setJ, gO_setJ, gL_setC, gK_setC, gI_setC, gR_setC, gN_setC, gA_setC, gB_setC, gJ_setC, gO_setC, gK_mNew, gI_mNew, gR_mNew, gN_mNew, gA_mNew, gB_mNew, gJ_mNew] using hw
  · intro w hw1
    have hw1 : w < t 3 1 + 1 := by simpa [tu_at] using hw1
    by_cases hc : w = t 3 1
    · subst hc
      simp [up2, tu_at, gO_setI, gI_setI, oe, e0, e1, e2, e3]
    · have h9 := hp w (by omega)
      simp [up2, tu_at, hc, gO_setI, gI_setI, h9]
  · obtain ⟨l1, l2, l3, l4, l5, l6, l7⟩ := h0
    have hne : B 0 5 ≠ B 0 7 := b57
    refine ⟨l1, l2, by simp [gI_setI, tu_at, hne, l3], by simpa [tu_at, gO_setI, gN_setI] using l4, by simpa [tu_at] using l5, by simpa [tu_at] using l6, fun i hi => ?_⟩
    have hi : i < t 3 0 := by simpa [tu_at] using hi
    simpa [tu_at, gB_setI] using l7 i hi
  · obtain ⟨l1, l2, l3, l4, l5, l6, l7⟩ := h1
    refine ⟨l1, l2, by simp [gI_setI, tu_at], by simpa [tu_at, gO_setI, gN_setI] using l4, by simp [tu_at]; omega, by simpa [tu_at] using l6, fun i hi => ?_⟩
    have hi : i < t 3 1 + 1 := by simpa [tu_at] using hi
    by_cases hc : i = t 3 1
    · subst hc; simpa [tu_at, gB_setI] using ha
    · simpa [tu_at, hc, gB_setI] using l7 i (by omega)
  · obtain ⟨l1, l2, l3, l4, l5, l6, l7⟩ := h2
    have hne : B 0 8 ≠ B 0 7 := Ne.symm b78
    refine ⟨l1, l2, by simp [gI_setI, tu_at, hne, l3], by simpa [tu_at, gO_setI, gN_setI] using l4, by simpa [tu_at] using l5, by simpa [tu_at] using l6, fun i hi => ?_⟩
    have hk : ka.getD i 0 < t 3 1 := by
      rw [List.getD_eq_getElem?_getD, List.getElem?_eq_getElem hi]
      exact x6 _ (List.getElem_mem hi)
    have hk2 : ka.getD i 0 ≠ t 3 1 := by omega
    show mB u (tu (tu t 1 (t 3 1) e) 3 1 (t 3 1 + 1) 4 2) i = some (tu (tu t 1 (t 3 1) e) 3 1 (t 3 1 + 1) 1 (ka.getD i 0))
    have e8 : tu (tu t 1 (t 3 1) e) 3 1 (t 3 1 + 1) 1 (ka.getD i 0) = t 1 (ka.getD i 0) := by
      rw [tu_at, if_neg (fun e => by omega), tu_at, if_neg (fun e => hk2 e.2)]
    rw [e8]
    exact l7 i hi
  · simpa [Sm, up2, tu_at, gL_setI, gK_setI, gI_setI, gR_setI, gN_setI, gA_setI, gB_setI, gJ_setI, gO_setI, gL_setR, gK_setR, gI_setR, gR_setR, gN_setR, gA_setR, gB_setR, gJ_setR, gO_setR, gL_setA, gK_setA, gI_setA, gR_setA, gN_setA, gA_setA, gB_setA, gJ_setA, gO_setA, gL_setB, gK_setB, gI_setB, gR_setB, gN_setB, gA_setB, gB_setB, gJ_setB, gO_setB, gL_setJ, gK_setJ, gI_setJ, gR_setJ, gN_setJ, gA_setJ, gB_setJ, gJ_setJ, gO_setJ, gL_setC, gK_setC, gI_setC, gR_setC, gN_setC, gA_setC, gB_setC, gJ_setC, gO_setC, gK_mNew, gI_mNew, gR_mNew, gN_mNew, gA_mNew, gB_mNew, gJ_mNew] using hm
  · simpa [So, up2, tu_at, gL_setI, gK_setI, gI_setI, gR_setI, gN_setI, gA_setI, gB_setI, gJ_setI, gO_setI, gL_setR, gK_setR, gI_setR, gR_setR, gN_setR, gA_setR, gB_setR, gJ_setR, gO_setR, gL_setA, gK_setA, gI_setA, gR_setA, gN_setA, gA_setA, gB_setA, gJ_setA, gO_setA, gL_setB, gK_setB, gI_setB, gR_setB, gN_setB, gA_setB, gB_setB, gJ_setB, gO_setB, gL_setJ, gK_setJ, gI_setJ, gR_setJ, gN_setJ, gA_setJ, gB_setJ, gJ_setJ, gO_setJ, gL_setC, gK_setC, gI_setC, gR_setC, gN_setC, gA_setC, gB_setC, gJ_setC, gO_setC, gK_mNew, gI_mNew, gR_mNew, gN_mNew, gA_mNew, gB_mNew, gJ_mNew] using ho
  · refine ⟨by simpa [tu_at] using x1, fun i j hi hj hij => ?_, by simpa [tu_at] using x3, by simpa [tu_at] using x4, by simpa [tu_at] using x5, fun j hj => ?_⟩
    · have hi : i < t 3 1 + 1 := by simpa [tu_at] using hi
      have hj : j < t 3 1 + 1 := by simpa [tu_at] using hj
      by_cases hc : i = t 3 1 <;> by_cases hc2 : j = t 3 1
      · omega
      · rw [hc] at hij; simp [tu_at, hc2] at hij; exact absurd hij.symm (hf j (by omega))
      · rw [hc2] at hij; simp [tu_at, hc] at hij; exact absurd hij (hf i (by omega))
      · simp [tu_at, hc, hc2] at hij; exact x2 i j (by omega) (by omega) hij
    · have := x6 j hj
      simp [tu_at]; omega
theorem S_ckept (h : S2 B G s t ka s2 u) {j : Nat} (hn : ka.length < t 5 2) (hj : j < t 3 1) (ha : mB u (t 4 2) ka.length = some (t 1 j)) : S2 B G s t (ka ++ [j]) s2 (setI u 2 (B 0 8) (nI (ka.length + 1))) := by
  obtain ⟨hd, hs, he, hw, hp, h0, h1, h2, hm, ho, hx, hB⟩ := h
  have hB0 := hB
  obtain ⟨b1, b2, b3, b4, b5, b57, b58, b78⟩ := hB0
  have hx0 := hx
  obtain ⟨x1, x2, x3, x4, x5, x6⟩ := hx0
  refine ⟨?_, ?_, ?_, ?_, ?_, ?_, ?_, ?_, ?_, ?_, ⟨x1, x2, x3, x4, x5, fun i hi => ?_⟩, hB⟩
  · simpa [Sd, up2, tu_at, gL_setI, gK_setI, gI_setI, gR_setI, gN_setI, gA_setI, gB_setI, gJ_setI, gO_setI, gL_setR, gK_setR, gI_setR, gR_setR, gN_setR, gA_setR, gB_setR, gJ_setR, gO_setR, gL_setA, gK_setA, gI_setA, gR_setA, gN_setA, gA_setA, gB_setA, gJ_setA, gO_setA, gL_setB, gK_setB, gI_setB, gR_setB, gN_setB, gA_setB, gB_setB, gJ_setB, gO_setB, gL_setJ, gK_setJ, gI_setJ, gR_setJ, gN_setJ, gA_setJ, gB_setJ, gJ_setJ, gO_setJ, gL_setC, gK_setC, gI_setC, gR_setC, gN_setC, gA_setC, gB_setC, gJ_setC, gO_setC, gK_mNew, gI_mNew, gR_mNew, gN_mNew, gA_mNew, gB_mNew, gJ_mNew] using hd
  · simpa [Ss, up2, tu_at, gL_setI, gK_setI, gI_setI, gR_setI, gN_setI, gA_setI, gB_setI, gJ_setI, gO_setI, gL_setR, gK_setR, gI_setR, gR_setR, gN_setR, gA_setR, gB_setR, gJ_setR, gO_setR, gL_setA, gK_setA, gI_setA, gR_setA, gN_setA, gA_setA, gB_setA, gJ_setA, gO_setA, gL_setB, gK_setB, gI_setB, gR_setB, gN_setB, gA_setB, gB_setB, gJ_setB, gO_setB, gL_setJ, gK_setJ, gI_setJ, gR_setJ, gN_setJ, gA_setJ, gB_setJ, gJ_setJ, gO_setJ, gL_setC, gK_setC, gI_setC, gR_setC, gN_setC, gA_setC, gB_setC, gJ_setC, gO_setC, gK_mNew, gI_mNew, gR_mNew, gN_mNew, gA_mNew, gB_mNew, gJ_mNew] using hs
  · simpa [Se, up2, tu_at, gL_setI, gK_setI, gI_setI, gR_setI, gN_setI, gA_setI, gB_setI, gJ_setI, gO_setI, gL_setR, gK_setR, gI_setR, gR_setR, gN_setR, gA_setR, gB_setR, gJ_setR, gO_setR, gL_setA, gK_setA, gI_setA, gR_setA, gN_setA, gA_setA, gB_setA, gJ_setA, gO_setA, gL_setB, gK_setB, gI_setB, gR_setB, gN_setB, gA_setB, gB_setB, gJ_setB, gO_setB, gL_setJ, gK_setJ, gI_setJ, gR_setJ, gN_setJ, gA_setJ, gB_setJ, gJ_setJ, gO_setJ, gL_setC, gK_setC, gI_setC, gR_setC, gN_setC, gA_setC, gB_setC, gJ_setC, gO_setC, gK_mNew, gI_mNew, gR_mNew, gN_mNew, gA_mNew, gB_mNew, gJ_mNew] using he
  · simpa [Sw, up2, tu_at, gL_setI, gK_setI, gI_setI, gR_setI, gN_setI, gA_setI, gB_setI, gJ_setI, gO_setI, gL_setR, gK_setR, gI_setR, gR_setR, gN_setR, gA_setR, gB_setR, gJ_setR, gO_setR, gL_setA, gK_setA, gI_setA, gR_setA, gN_setA, gA_setA, gB_setA, gJ_setA, gO_setA, gL_setB, gK_setB, gI_setB, gR_setB, gN_setB, gA_setB, gB_setB, gJ_setB, gO_setB, gL_setJ, gK_setJ, gI_setJ, gR_setJ, gN_setJ, gA_setJ, gB_setJ, gJ_setJ, gO_setJ, gL_setC, gK_setC, gI_setC, gR_setC, gN_setC, gA_setC, gB_setC, gJ_setC, gO_setC, gK_mNew, gI_mNew, gR_mNew, gN_mNew, gA_mNew, gB_mNew, gJ_mNew] using hw
  · simpa [Sp, up2, tu_at, gL_setI, gK_setI, gI_setI, gR_setI, gN_setI, gA_setI, gB_setI, gJ_setI, gO_setI, gL_setR, gK_setR, gI_setR, gR_setR, gN_setR, gA_setR, gB_setR, gJ_setR, gO_setR, gL_setA, gK_setA, gI_setA, gR_setA, gN_setA, gA_setA, gB_setA, gJ_setA, gO_setA, gL_setB, gK_setB, gI_setB, gR_setB, gN_setB, gA_setB, gB_setB, gJ_setB, gO_setB, gL_setJ, gK_setJ, gI_setJ, gR_setJ, gN_setJ, gA_setJ, gB_setJ, gJ_setJ, gO_setJ, gL_setC, gK_setC, gI_setC, gR_setC, gN_setC, gA_setC, gB_setC, gJ_setC, gO_setC, gK_mNew, gI_mNew, gR_mNew, gN_mNew, gA_mNew, gB_mNew, gJ_mNew] using hp
  · obtain ⟨l1, l2, l3, l4, l5, l6, l7⟩ := h0
    have hne : B 0 5 ≠ B 0 8 := b58
    refine ⟨l1, l2, by simp [gI_setI, tu_at, hne, l3], by simpa [tu_at, gO_setI, gN_setI] using l4, by simpa [tu_at] using l5, by simpa [tu_at] using l6, fun i hi => ?_⟩
    have hi : i < t 3 0 := by simpa [tu_at] using hi
    simpa [tu_at, gB_setI] using l7 i hi
  · obtain ⟨l1, l2, l3, l4, l5, l6, l7⟩ := h1
    have hne : B 0 7 ≠ B 0 8 := b78
    refine ⟨l1, l2, by simp [gI_setI, tu_at, hne, l3], by simpa [tu_at, gO_setI, gN_setI] using l4, by simpa [tu_at] using l5, by simpa [tu_at] using l6, fun i hi => ?_⟩
    have hi : i < t 3 1 := by simpa [tu_at] using hi
    simpa [tu_at, gB_setI] using l7 i hi
  · obtain ⟨l1, l2, l3, l4, l5, l6, l7⟩ := h2
    refine ⟨l1, l2, by simp [gI_setI], l4, by simp; omega, l6, fun i hi => ?_⟩
    have hi : i < ka.length + 1 := by simpa using hi
    by_cases hc : i = ka.length
    · subst hc; simpa [gB_setI] using ha
    · have hi2 : i < ka.length := by omega
      have e9 : (ka ++ [j]).getD i 0 = ka.getD i 0 := by simp [List.getD_eq_getElem?_getD, List.getElem?_append_left hi2]
      show mB u (t 4 2) i = some (t 1 ((ka ++ [j]).getD i 0))
      rw [e9]
      exact l7 i hi2
  · simpa [Sm, up2, tu_at, gL_setI, gK_setI, gI_setI, gR_setI, gN_setI, gA_setI, gB_setI, gJ_setI, gO_setI, gL_setR, gK_setR, gI_setR, gR_setR, gN_setR, gA_setR, gB_setR, gJ_setR, gO_setR, gL_setA, gK_setA, gI_setA, gR_setA, gN_setA, gA_setA, gB_setA, gJ_setA, gO_setA, gL_setB, gK_setB, gI_setB, gR_setB, gN_setB, gA_setB, gB_setB, gJ_setB, gO_setB, gL_setJ, gK_setJ, gI_setJ, gR_setJ, gN_setJ, gA_setJ, gB_setJ, gJ_setJ, gO_setJ, gL_setC, gK_setC, gI_setC, gR_setC, gN_setC, gA_setC, gB_setC, gJ_setC, gO_setC, gK_mNew, gI_mNew, gR_mNew, gN_mNew, gA_mNew, gB_mNew, gJ_mNew] using hm
  · simpa [So, up2, tu_at, gL_setI, gK_setI, gI_setI, gR_setI, gN_setI, gA_setI, gB_setI, gJ_setI, gO_setI, gL_setR, gK_setR, gI_setR, gR_setR, gN_setR, gA_setR, gB_setR, gJ_setR, gO_setR, gL_setA, gK_setA, gI_setA, gR_setA, gN_setA, gA_setA, gB_setA, gJ_setA, gO_setA, gL_setB, gK_setB, gI_setB, gR_setB, gN_setB, gA_setB, gB_setB, gJ_setB, gO_setB, gL_setJ, gK_setJ, gI_setJ, gR_setJ, gN_setJ, gA_setJ, gB_setJ, gJ_setJ, gO_setJ, gL_setC, gK_setC, gI_setC, gR_setC, gN_setC, gA_setC, gB_setC, gJ_setC, gO_setC, gK_mNew, gI_mNew, gR_mNew, gN_mNew, gA_mNew, gB_mNew, gJ_mNew] using ho
  · rcases List.mem_append.mp hi with z | z
    · exact x6 i z
    · rw [List.mem_singleton.mp z]; exact hj
theorem S_unkeep (h : S2 B G s t ka s2 u) {i : Nat} (hi : i < ka.length) {v : Mem} (hv : v = u ∨ ∃ c, v = setC u (t 4 2) c) (hc : ∀ j, j < ka.length - 1 → mB v (t 4 2) j = if j < i then mB u (t 4 2) j else mB u (t 4 2) (j + 1)) : S2 B G s t (ka.eraseIdx i) s2 (setB (setI v 2 (B 0 8) (nI (ka.length - 1))) (t 4 2) (ka.length - 1) none) := by
  obtain ⟨hd, hs, he, hw, hp, h0, h1, h2, hm, ho, hx, hB⟩ := h
  have hB0 := hB
  obtain ⟨b1, b2, b3, b4, b5, b57, b58, b78⟩ := hB0
  have hx0 := hx
  obtain ⟨x1, x2, x3, x4, x5, x6⟩ := hx0
  have hl : (ka.eraseIdx i).length = ka.length - 1 := by rw [List.length_eraseIdx]; simp [hi]
  have hcap : t 5 2 ≠ 0 := by have := h2.2.2.2.2.1; omega
  have hq : OB u (t 4 2) 13 := by
    rcases h2.2.2.2.1 with ⟨z, _⟩ | ⟨_, z, _⟩
    · exact absurd z hcap
    · exact z
  have gO : ∀ a k, OB v a k = OB u a k := fun a k => by rcases hv with rfl | ⟨c, rfl⟩ <;> rfl
  have gI : ∀ f a, mI v f a = mI u f a := fun f a => by rcases hv with rfl | ⟨c, rfl⟩ <;> rfl
  have gR : ∀ f a, mR v f a = mR u f a := fun f a => by rcases hv with rfl | ⟨c, rfl⟩ <;> rfl
  have gN : ∀ a, mN v a = mN u a := fun a => by rcases hv with rfl | ⟨c, rfl⟩ <;> rfl
  have gA : ∀ a j, mA v a j = mA u a j := fun a j => by rcases hv with rfl | ⟨c, rfl⟩ <;> rfl
  have gB : ∀ a j, a ≠ t 4 2 → mB v a j = mB u a j := fun a j hn => by
    rcases hv with rfl | ⟨c, rfl⟩
    · rfl
    · rw [gB_setC, if_neg hn]
  refine ⟨?_, ?_, ?_, ?_, ?_, ?_, ?_, ?_, ?_, ?_, ⟨x1, x2, x3, x4, x5, fun j hj => x6 j (List.mem_of_mem_eraseIdx hj)⟩, hB⟩
  · obtain ⟨d1, d2, d3, d4, d5, d6, d7, d8, d9, d10, d11, d12, d13, d14, d15, d16⟩ := hd
    simp only [Sd, gO_setB, gR_setB, gI_setB, gN_setB, gB_setB, gO_setI, gR_setI, gI_setI, gN_setI, gB_setI, gO, gI, gR, gN]
    refine ⟨d1, d2, d3, d4, d5, by simpa using d6, by simpa using d7, d8, d9, fun i hi => ?_, d11, d12, fun i hi => ?_, d14, d15, d16⟩
    · have hn := ob_ne d8 hq (by decide); rw [if_neg (fun e => hn e.1), gB _ _ hn]; exact d10 i hi
    · have hn := ob_ne d11 hq (by decide); rw [if_neg (fun e => hn e.1), gB _ _ hn]; exact d13 i hi
  · intro i hi; simpa [gO_setB, gR_setB, gI_setB, gN_setB, gA_setB, gO_setI, gR_setI, gI_setI, gN_setI, gA_setI, gO, gI, gR, gN, gA] using hs i hi
  · intro i hi; simpa [gO_setB, gI_setB, gO_setI, gI_setI, gO, gI] using he i hi
  · intro i hi; simpa [gO_setB, gI_setB, gR_setB, gO_setI, gI_setI, gR_setI, gO, gI, gR] using hw i hi
  · intro i hi; simpa [gO_setB, gI_setB, gO_setI, gI_setI, gO, gI] using hp i hi
  · obtain ⟨l1, l2, l3, l4, l5, l6, l7⟩ := h0
    simp only [Ls, gO_setB, gR_setB, gI_setB, gN_setB, gB_setB, gO_setI, gR_setI, gI_setI, gN_setI, gB_setI, gO, gI, gR, gN]
    refine ⟨l1, l2, by rw [if_neg (fun e => b58 e.2)]; exact l3, l4, l5, l6, fun j hj => ?_⟩
    have hn : t 4 0 ≠ t 4 2 := x4 (by omega) hcap
    rw [if_neg (fun e => hn e.1), gB _ _ hn]; exact l7 j hj
  · obtain ⟨l1, l2, l3, l4, l5, l6, l7⟩ := h1
    simp only [Ls, gO_setB, gR_setB, gI_setB, gN_setB, gB_setB, gO_setI, gR_setI, gI_setI, gN_setI, gB_setI, gO, gI, gR, gN]
    refine ⟨l1, l2, by rw [if_neg (fun e => b78 e.2)]; exact l3, l4, l5, l6, fun j hj => ?_⟩
    have hn : t 4 1 ≠ t 4 2 := x5 (by omega) hcap
    rw [if_neg (fun e => hn e.1), gB _ _ hn]; exact l7 j hj
  · obtain ⟨l1, l2, l3, l4, l5, l6, l7⟩ := h2
    simp only [Ls, gO_setB, gR_setB, gI_setB, gN_setB, gB_setB, gO_setI, gR_setI, gI_setI, gN_setI, gB_setI, gO, gI, gR, gN, hl]
    refine ⟨l1, l2, by simp, l4, by omega, l6, fun j hj => ?_⟩
    rw [if_neg (fun e => by omega), hc j hj]
    have e9 : (ka.eraseIdx i).getD j 0 = if j < i then ka.getD j 0 else ka.getD (j + 1) 0 := by
      simp only [List.getD_eq_getElem?_getD, List.getElem?_eraseIdx]
      split <;> rfl
    rw [e9]
    split
    · exact l7 j (by omega)
    · exact l7 (j + 1) (by omega)
  · intro k hk
    simp only [gO_setB, gN_setB, gA_setB, gO_setI, gN_setI, gA_setI, gO, gN, gA]
    exact hm k hk
  · simpa [So, gO_setB, gO_setI, gO] using ho
end S2C
