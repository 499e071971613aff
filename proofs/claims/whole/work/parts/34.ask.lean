section S2P
variable {B : Nat → Nat → Nat} {G : Ctx} {s s2 : Nat → Nat → Int32} {t : Nat → Nat → Nat} {ka : List Nat} {u : Mem}
theorem gsn {u : Mem} {f g a b : Nat} {v : Int32} (h : g ≠ f) : mI (setI u f a v) g b = mI u g b := by rw [gI_setI, if_neg (fun e => h e.1)]
theorem gse {u : Mem} {f a : Nat} {v : Int32} : mI (setI u f a v) f a = v := by rw [gI_setI, if_pos ⟨rfl, rfl⟩]
def wmem (u : Mem) (q : Nat) (a b c : Int32) : Mem := setI (setI (setI (setI (setI (setR (setI (mNew u q 5 0) 163 q 0) 164 q none) 165 q 0) 166 q 0) 160 q a) 161 q b) 162 q c
theorem c_walk4 {q : Nat} {a b c : Int32} {K : Mem → Prop} (hK : K (wmem u q a b c)) : w_X4_init G q a b c (mNew u q 5 0) K := by
  simp [w_X4_init, gO_setI, gO_setR, gO_self]
  exact hK
theorem wmem_ext {q : Nat} {a b c : Int32} (hq : q ∉ mL u) : Ext u (wmem u q a b c) := (((((((Ext.rf.new hq).setI hq _ _).setR hq _ _).setI hq _ _).setI hq _ _).setI hq _ _).setI hq _ _).setI hq _ _
theorem wmem_at {q : Nat} {a b c : Int32} : OB (wmem u q a b c) q 5 ∧ mI (wmem u q a b c) 160 q = a ∧ mI (wmem u q a b c) 161 q = b ∧ mI (wmem u q a b c) 162 q = c ∧ mI (wmem u q a b c) 163 q = 0 ∧ mR (wmem u q a b c) 164 q = none ∧ mI (wmem u q a b c) 165 q = 0 ∧ mI (wmem u q a b c) 166 q = 0 := by
  unfold wmem
  refine ⟨?_, ?_, ?_, ?_, ?_, ?_, ?_, ?_⟩
  · exact (gO_self : OB (mNew u q 5 0) q 5)
  · rw [gsn (by decide), gsn (by decide), gse]
  · rw [gsn (by decide), gse]
  · rw [gse]
  · rw [gsn (by decide), gsn (by decide), gsn (by decide), gsn (by decide), gsn (by decide), gI_setR, gse]
  · rw [gR_setI, gR_setI, gR_setI, gR_setI, gR_setI, gR_setR, if_pos ⟨rfl, rfl⟩]
  · rw [gsn (by decide), gsn (by decide), gsn (by decide), gsn (by decide), gse]
  · rw [gsn (by decide), gsn (by decide), gsn (by decide), gse]
def s_ask (s : Nat → Nat → Int32) (n : Nat) (f d : Int32) : Nat → Nat → Int32 := up2 (up2 (up2 (up2 s 11 n f) 12 n d) 14 n (-1)) 10 0 (nI (n + 1))
theorem c_ask (h : S2 B G s t ka s2 u) (hI : Iv s t ka) {i j : Nat} (hi : i < 8) (hj : j < 8) (hne : i ≠ j) (hlt : t 3 0 < 60) {K : Int32 → Mem → Prop} {X : String → Mem → Prop} (hK : ∀ t' u', S2 B G (s_ask s (t 3 0) (nI i) (nI j)) t' ka s2 u' → t' 3 0 = t 3 0 + 1 → t' 3 1 = t 3 1 → K (nI (t 3 0)) u') : w_X5_ask G (B 0 0) (nI i) (nI j) 3 600 u K X := by
  have e1 : ¬ (nI i = nI j) := fun e => hne ((nI_eq (by omega) (by omega)).mp e)
  have e2 : nI (t 3 0) < (60 : Int32) := nI_lt (a := t 3 0) (b := 60) (by omega) (by omega)
  simp [w_X5_ask, w_X5_isStreet, rg8 hi, rg8 hj, e1, fd h, w_Jx4a65c_size_8abf5, e2, Int32.not_le.mpr e2]
  intro q hq
  have hS := S_ext h (wmem_ext (a := nI (t 3 0)) (b := nI i) (c := nI j) hq)
  refine c_walk4 ⟨1, by omega, 450, by omega, (fd hS).2.2.2.2.2.2.2.2.2.2.2.2.2.2.1, ?_⟩
  obtain ⟨k1, k2, k3, k4, k5, k6, k7, k8⟩ := wmem_at (u := u) (q := q) (a := nI (t 3 0)) (b := nI i) (c := nI j)
  have hqm := k1.1
  refine a_list0 hS (.inl k1) (by omega) (Nat.le_refl _) (Nat.le_refl _) (fun t' u' hS' ht hc' hb hO hM => ?_)
  have f3 : t' 3 0 = t 3 0 := ht 3 0 (by omega) (by omega)
  have f31 : t' 3 1 = t 3 1 := ht 3 1 (by omega) (by omega)
  obtain ⟨y3, y5, y6⟩ := hI.2.2.2.2.2.2.2.2.1 (t 3 0) (Nat.le_refl _)
  have hC := S_cwalk hS' (e := q) (f := nI i) (d := nI j) (by rw [f3]; exact hc') (by rw [f3]; exact hb) (hO _ _ k1) (by rw [(hM _ _ (by omega) hqm).1, k2, f3]) (by rw [(hM _ _ (by omega) hqm).1, k3]) (by rw [(hM _ _ (by omega) hqm).1, k4]) (by rw [(hM _ _ (by omega) hqm).1, k5]) (by rw [(hM _ _ (by omega) hqm).2, k6]) (by rw [(hM _ _ (by omega) hqm).1, k7]) (by rw [(hM _ _ (by omega) hqm).1, k8]) (fun w hw e => ?_) (by rw [f3]; exact y3) (by rw [f3]; exact y5) (by rw [f3]; exact y6)
  · rw [f3] at hC
    exact hK _ _ hC (by simp [tu_at]) (by simp [tu_at, f31])
  · rw [ht 0 w (by omega) (by omega)] at e
    rw [f3] at hw
    exact hq (e ▸ (fw h hw).1.1)
theorem m_ask (h : S2 B G s t ka s2 u) {n i j : Nat} (hn : s2 10 0 = nI n) (hlt : n < 60) (hi : i < 8) (hj : j < 8) (hne : i ≠ j) {K : Int32 → Mem → Prop} (hK : ∀ u', S2 B G s t ka (s_ask s2 n (nI i) (nI j)) u' → mI u' 224 (B 0 1) = 0 → mJ u' (B 0 2) 0 = mJ u (B 0 2) 0 → K (nI n) u') : w_X6_ask G (B 0 1) (nI i) (nI j) u K := by
  have e1 : ¬ (nI i = nI j) := fun e => hne ((nI_eq (by omega) (by omega)).mp e)
  have e2 : ¬ (nI n = (60 : Int32)) := fun e => by have := (nI_eq (a := n) (b := 60) (by omega) (by omega)).mp e; omega
  have hr := rgw hlt (Nat.le_refl 60)
  simp -implicitDefEqProofs [w_X6_ask, w_X6_isStreet, w_X6_in, fm h, rg8 hi, rg8 hj, e1, e2, hn, hr, gI_setI, gO_setI, gR_setI, gN_setI, gI_setA, gO_setA, gR_setA, gN_setA]
  have e3 : nI n + 1 = nI (n + 1) := nI_1 n
  rw [e3]
  refine hK _ (S_mwalks (S_mrow (S_mrow (S_mrow (S_thrown h _ _) (k0 := 11) (by unfold ak; omega) (by show n < 60; omega) _) (k0 := 12) (by unfold ak; omega) (by show n < 60; omega) _) (k0 := 14) (by unfold ak; omega) (by show n < 60; omega) _) _) ?_ ?_
  · rw [gsn (by decide), gI_setA, gI_setA, gI_setA, gse]
  · rw [gJ_setI, gJ_setA, gJ_setA, gJ_setA, gJ_setI]
theorem I_ask (hI : Iv s t ka) {i j : Nat} (hi : i < 8) (hj : j < 8) (hlt : t 3 0 < 60) {t' : Nat → Nat → Nat} (e0 : t' 3 0 = t 3 0 + 1) (e1 : t' 3 1 = t 3 1) : Iv (s_ask s (t 3 0) (nI i) (nI j)) t' ka := by
  obtain ⟨⟨j0, j1, j2, j3, j4, j5⟩, i1, i2, i3, i4, i5, i6, i7, i8, i9, i10⟩ := hI
  unfold Iv
  rw [e0, e1]
  refine ⟨⟨by omega, j1, by simp [s_ask, up2_at], by simpa [s_ask, up2_at] using j3, by simpa [s_ask, up2_at] using j4, by simpa [s_ask, up2_at] using j5⟩, fun w hw => ?_, fun w hw => ?_, fun w hw => ?_, fun w hw => ?_, fun w hw => ?_, fun w hw => ?_, fun w hw => ?_, fun w hw => ?_, fun w hw => ?_, ?_⟩
  · simpa [s_ask, up2_at] using i1 w hw
  · simpa [s_ask, up2_at] using i2 w hw
  · simpa [s_ask, up2_at] using i3 w hw
  · simpa [s_ask, up2_at] using i4 w hw
  · simpa [s_ask, up2_at] using i5 w hw
  · by_cases e : w = t 3 0
    · exact ⟨i, j, hi, hj, by simp [s_ask, up2_at, e], by simp [s_ask, up2_at, e]⟩
    · simpa [s_ask, up2_at, e] using i6 w (by omega)
  · by_cases e : w = t 3 0
    · subst e
      refine .inl ⟨by simp [s_ask, up2_at], ?_⟩
      have := (i8 (t 3 0) (Nat.le_refl _)).1
      simpa [s_ask, up2_at] using this
    · simpa [s_ask, up2_at, e] using i7 w (by omega)
  · simpa [s_ask, up2_at] using i8 w (by omega)
  · simpa [s_ask, up2_at] using i9 w hw
  · simpa [s_ask, up2_at] using i10
theorem Pt_w {q mc ms : Nat} (h : Pt (q + 1) mc ms t) : 3 ≤ mc ∧ 600 ≤ ms ∧ ∀ t' : Nat → Nat → Nat, t' 3 1 = t 3 1 → Pt q (mc - 3) (ms - 600) t' := by
  unfold Pt at *
  refine ⟨by omega, by omega, fun t' e => ?_⟩
  rw [e]; omega
theorem p_452 (L : Nat) (xs : Nat → Int32) (J : Nat → Nat → Nat → Int32 → Nat → Nat → Mem → Prop) {v4 : Int32} {mc ms q : Nat} (a1 : vp_in (v4 + 1) L) (a2 : vp_in (v4 + 2) L) (h : S2 B G s t ka s u) (hI : Iv s t ka) (hP : Pt (q + 1) mc ms t) (hJ : HJ B G q (J (B 0 0) (B 0 1) (B 0 2) (v4 + 4))) : w_L_law_452 G L xs J (B 0 0) (B 0 1) (B 0 2) v4 mc ms u := by
  obtain ⟨b1, b2, b3, b4⟩ := Pt_1 hP
  by_cases hK3 : ∃ i j, i < 8 ∧ j < 8 ∧ xs (v4 + 1).toNatClampNeg = nI i ∧ xs (v4 + 2).toNatClampNeg = nI j ∧ i ≠ j ∧ t 3 0 < 60
  · obtain ⟨i, j, hi, hj, ei, ej, hne, hlt⟩ := hK3
    obtain ⟨p1, p2, p3⟩ := Pt_w hP
    refine ⟨a1, a2, 3, 600, p1, p2, ?_⟩
    rw [ei, ej]
    refine ⟨3, 600, Nat.le_refl _, Nat.le_refl _, (fd h).1, c_ask h hI hi hj hne hlt (fun t' u' hS' f0 f1 => out1 hS' (fun hS hO => ⟨a1, a2, (fm hS).1, m_ask hS hI.1.2.2.1 hlt hi hj hne (fun u2 hS2 hth hout => ?_)⟩))⟩
    exact fin1 (A := w_L_law_517 G L xs J (B 0 0) (B 0 1) (B 0 2) v4 (mc - 3) (ms - 600)) hS2 hth (fun _ => hout.trans hO) (hJ _ _ _ _ _ _ hS2 (I_ask hI hi hj hlt f0 f1) (p3 _ f1))
  · refine ⟨a1, a2, 1, 6, b1, b2, ?_⟩
    revert hK3
    generalize xs (v4 + 1).toNatClampNeg = x1
    generalize xs (v4 + 2).toNatClampNeg = x2
    intro hK3
    refine ⟨1, 6, Nat.le_refl _, Nat.le_refl _, (fd h).1, ?_⟩
    by_cases n1 : x1 < 0
    · simp [w_X5_ask, w_X5_ask_14, w_X6_ask, w_X6_ask_19, w_X5_isStreet, w_Jx4a65c_size_8abf5, w_L_law_517, hI.1.2.2.1, w_X6_isStreet, w_X6_isEscort, w_X6_isWalk, w_X6_in, w_X6_fails, w_X6_thrown, w_L_law_1347, vp0, cmpS, fd h, fm h, a1, a2, n1, gL_setI, gK_setI, gI_setI, gR_setI, gN_setI, gA_setI, gB_setI, gJ_setI, gO_setI, gL_setR, gK_setR, gI_setR, gR_setR, gN_setR, gA_setR, gB_setR, gJ_setR, gO_setR, gL_setA, gK_setA, gI_setA, gR_setA, gN_setA, gA_setA, gB_setA, gJ_setA, gO_setA, gL_setB, gK_setB, gI_setB, gR_setB, gN_setB, gA_setB, gB_setB, gJ_setB, gO_setB, gL_setJ, gK_setJ, gI_setJ, gR_setJ, gN_setJ, gA_setJ, gB_setJ, gJ_setJ, gO_setJ, gL_setC, gK_setC, gI_setC, gR_setC, gN_setC, gA_setC, gB_setC, gJ_setC, gO_setC, gK_mNew, gI_mNew, gR_mNew, gN_mNew, gA_mNew, gB_mNew, gJ_mNew]
      exact hJ _ _ _ _ _ _ (S_thrown (S_thrown h _ _) _ _) hI b3
    · by_cases m1 : nI 8 ≤ x1
      · have o1 := og8 m1
        simp [w_X5_ask, w_X5_ask_14, w_X6_ask, w_X6_ask_19, w_X5_isStreet, w_Jx4a65c_size_8abf5, w_L_law_517, hI.1.2.2.1, w_X6_isStreet, w_X6_isEscort, w_X6_isWalk, w_X6_in, w_X6_fails, w_X6_thrown, w_L_law_1347, vp0, cmpS, fd h, fm h, a1, a2, n1, o1, gL_setI, gK_setI, gI_setI, gR_setI, gN_setI, gA_setI, gB_setI, gJ_setI, gO_setI, gL_setR, gK_setR, gI_setR, gR_setR, gN_setR, gA_setR, gB_setR, gJ_setR, gO_setR, gL_setA, gK_setA, gI_setA, gR_setA, gN_setA, gA_setA, gB_setA, gJ_setA, gO_setA, gL_setB, gK_setB, gI_setB, gR_setB, gN_setB, gA_setB, gB_setB, gJ_setB, gO_setB, gL_setJ, gK_setJ, gI_setJ, gR_setJ, gN_setJ, gA_setJ, gB_setJ, gJ_setJ, gO_setJ, gL_setC, gK_setC, gI_setC, gR_setC, gN_setC, gA_setC, gB_setC, gJ_setC, gO_setC, gK_mNew, gI_mNew, gR_mNew, gN_mNew, gA_mNew, gB_mNew, gJ_mNew]
        exact hJ _ _ _ _ _ _ (S_thrown (S_thrown h _ _) _ _) hI b3
      · obtain ⟨i, hi, rfl⟩ := in8 (by decide) n1 m1
        by_cases n2 : x2 < 0
        · simp [w_X5_ask, w_X5_ask_14, w_X6_ask, w_X6_ask_19, w_X5_isStreet, w_Jx4a65c_size_8abf5, w_L_law_517, hI.1.2.2.1, w_X6_isStreet, w_X6_isEscort, w_X6_isWalk, w_X6_in, w_X6_fails, w_X6_thrown, w_L_law_1347, vp0, cmpS, fd h, fm h, a1, a2, rg8 hi, n2, gL_setI, gK_setI, gI_setI, gR_setI, gN_setI, gA_setI, gB_setI, gJ_setI, gO_setI, gL_setR, gK_setR, gI_setR, gR_setR, gN_setR, gA_setR, gB_setR, gJ_setR, gO_setR, gL_setA, gK_setA, gI_setA, gR_setA, gN_setA, gA_setA, gB_setA, gJ_setA, gO_setA, gL_setB, gK_setB, gI_setB, gR_setB, gN_setB, gA_setB, gB_setB, gJ_setB, gO_setB, gL_setJ, gK_setJ, gI_setJ, gR_setJ, gN_setJ, gA_setJ, gB_setJ, gJ_setJ, gO_setJ, gL_setC, gK_setC, gI_setC, gR_setC, gN_setC, gA_setC, gB_setC, gJ_setC, gO_setC, gK_mNew, gI_mNew, gR_mNew, gN_mNew, gA_mNew, gB_mNew, gJ_mNew]
          exact hJ _ _ _ _ _ _ (S_thrown (S_thrown h _ _) _ _) hI b3
        · by_cases m2 : nI 8 ≤ x2
          · have o2 := og8 m2
            simp [w_X5_ask, w_X5_ask_14, w_X6_ask, w_X6_ask_19, w_X5_isStreet, w_Jx4a65c_size_8abf5, w_L_law_517, hI.1.2.2.1, w_X6_isStreet, w_X6_isEscort, w_X6_isWalk, w_X6_in, w_X6_fails, w_X6_thrown, w_L_law_1347, vp0, cmpS, fd h, fm h, a1, a2, rg8 hi, n2, o2, gL_setI, gK_setI, gI_setI, gR_setI, gN_setI, gA_setI, gB_setI, gJ_setI, gO_setI, gL_setR, gK_setR, gI_setR, gR_setR, gN_setR, gA_setR, gB_setR, gJ_setR, gO_setR, gL_setA, gK_setA, gI_setA, gR_setA, gN_setA, gA_setA, gB_setA, gJ_setA, gO_setA, gL_setB, gK_setB, gI_setB, gR_setB, gN_setB, gA_setB, gB_setB, gJ_setB, gO_setB, gL_setJ, gK_setJ, gI_setJ, gR_setJ, gN_setJ, gA_setJ, gB_setJ, gJ_setJ, gO_setJ, gL_setC, gK_setC, gI_setC, gR_setC, gN_setC, gA_setC, gB_setC, gJ_setC, gO_setC, gK_mNew, gI_mNew, gR_mNew, gN_mNew, gA_mNew, gB_mNew, gJ_mNew]
            exact hJ _ _ _ _ _ _ (S_thrown (S_thrown h _ _) _ _) hI b3
          · obtain ⟨j, hj, rfl⟩ := in8 (by decide) n2 m2
            by_cases e : i = j
            · subst e
              simp [w_X5_ask, w_X5_ask_14, w_X6_ask, w_X6_ask_19, w_X5_isStreet, w_Jx4a65c_size_8abf5, w_L_law_517, hI.1.2.2.1, w_X6_isStreet, w_X6_isEscort, w_X6_isWalk, w_X6_in, w_X6_fails, w_X6_thrown, w_L_law_1347, vp0, cmpS, fd h, fm h, a1, a2, rg8 hi, gL_setI, gK_setI, gI_setI, gR_setI, gN_setI, gA_setI, gB_setI, gJ_setI, gO_setI, gL_setR, gK_setR, gI_setR, gR_setR, gN_setR, gA_setR, gB_setR, gJ_setR, gO_setR, gL_setA, gK_setA, gI_setA, gR_setA, gN_setA, gA_setA, gB_setA, gJ_setA, gO_setA, gL_setB, gK_setB, gI_setB, gR_setB, gN_setB, gA_setB, gB_setB, gJ_setB, gO_setB, gL_setJ, gK_setJ, gI_setJ, gR_setJ, gN_setJ, gA_setJ, gB_setJ, gJ_setJ, gO_setJ, gL_setC, gK_setC, gI_setC, gR_setC, gN_setC, gA_setC, gB_setC, gJ_setC, gO_setC, gK_mNew, gI_mNew, gR_mNew, gN_mNew, gA_mNew, gB_mNew, gJ_mNew]
              exact hJ _ _ _ _ _ _ (S_thrown (S_thrown h _ _) _ _) hI b3
            · have hc : t 3 0 = 60 := by
                rcases Nat.lt_or_ge (t 3 0) 60 with z | z
                · exact absurd ⟨i, j, hi, hj, rfl, rfl, e, z⟩ hK3
                · have := hI.1.1; omega
              have e1 : ¬ (nI i = nI j) := fun z => e ((nI_eq (by omega) (by omega)).mp z)
              have e2 : nI 60 = (60 : Int32) := rfl
              simp [w_X5_ask, w_X5_ask_14, w_X6_ask, w_X6_ask_19, w_X5_isStreet, w_Jx4a65c_size_8abf5, w_L_law_517, hI.1.2.2.1, w_X6_isStreet, w_X6_isEscort, w_X6_isWalk, w_X6_in, w_X6_fails, w_X6_thrown, w_L_law_1347, vp0, cmpS, fd h, fm h, a1, a2, rg8 hi, rg8 hj, e1, hc, e2, gL_setI, gK_setI, gI_setI, gR_setI, gN_setI, gA_setI, gB_setI, gJ_setI, gO_setI, gL_setR, gK_setR, gI_setR, gR_setR, gN_setR, gA_setR, gB_setR, gJ_setR, gO_setR, gL_setA, gK_setA, gI_setA, gR_setA, gN_setA, gA_setA, gB_setA, gJ_setA, gO_setA, gL_setB, gK_setB, gI_setB, gR_setB, gN_setB, gA_setB, gB_setB, gJ_setB, gO_setB, gL_setJ, gK_setJ, gI_setJ, gR_setJ, gN_setJ, gA_setJ, gB_setJ, gJ_setJ, gO_setJ, gL_setC, gK_setC, gI_setC, gR_setC, gN_setC, gA_setC, gB_setC, gJ_setC, gO_setC, gK_mNew, gI_mNew, gR_mNew, gN_mNew, gA_mNew, gB_mNew, gJ_mNew]
              exact hJ _ _ _ _ _ _ (S_thrown (S_thrown h _ _) _ _) hI b3
end S2P
