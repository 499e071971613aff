section S2P
variable {B : Nat → Nat → Nat} {G : Ctx} {s s2 : Nat → Nat → Int32} {t : Nat → Nat → Nat} {ka : List Nat} {u : Mem}
theorem minutes {n N : Nat} (hN : N ≤ 60) : ∀ (d k : Nat) (s : Nat → Nat → Int32) (m : Nat), Iw s n m → k + d = N → ∃ (s' : Nat → Nat → Int32) (m' x : Nat), m ≤ m' ∧ m' ≤ 300 ∧ Iw s' n m' ∧ s' 2 0 = s 2 0 ∧
    (∀ (B : Nat → Nat → Nat) (G : Ctx) (t : Nat → Nat → Nat) (ka : List Nat) (σ : Nat → Nat → Int32) (u : Mem) (mc ms c : Nat) (K : Int32 → Mem → Prop) (X : String → Mem → Prop), S2 B G s t ka σ u → t 3 0 = n → t 3 1 = m → ka = kf s m → 3 * (m' - m) ≤ mc → 1000 * (m' - m) ≤ ms → (∀ t' u', S2 B G (up2 s' 2 0 (s' 2 0 + nI N)) t' (kf s' m') σ u' → t' 3 0 = n → t' 3 1 = m' → K (nI (c + x)) u') → w_X5_pass_47 G (B 0 0) (nI N) K X (d + 1) (nI c) (nI k) mc ms u) ∧
    (∀ (B : Nat → Nat → Nat) (G : Ctx) (t : Nat → Nat → Nat) (ka : List Nat) (σ : Nat → Nat → Int32) (u : Mem) (c : Nat) (K : Int32 → Mem → Prop), S2 B G σ t ka s u → (∀ u', S2 B G σ t ka (up2 s' 2 0 (s' 2 0 + nI N)) u' → mI u' 224 (B 0 1) = mI u 224 (B 0 1) → mJ u' (B 0 2) 0 = mJ u (B 0 2) 0 → K (nI (c + x)) u') → w_X6_pass_43 G (B 0 1) (nI N) K (d + 1) (nI c) (nI k) u) := by
  intro d
  induction d with
  | zero =>
    intro k s m hW hk
    have e : nI N ≤ nI k := by rw [nI_leI (by omega) (by omega)]; omega
    refine ⟨s, m, 0, Nat.le_refl _, hW.1.2.1, hW, rfl, fun B G t ka σ u mc ms c K X h n0 n1 ek q1 q2 hK => ?_, fun B G t ka σ u c K h hK => ?_⟩
    · rw [wS_X5_pass_47]
      have f := fd h
      refine ⟨fun _ => ⟨f.1, f.1, fun u2 h2 => ?_⟩, fun z => absurd e z⟩
      have hS := S_minute h (s 2 0 + nI N)
      rw [h2, f.2.2.2.2.2.2.1]
      exact hK t _ (ek ▸ hS) n0 n1
    · rw [wS_X6_pass_43]
      refine ⟨fun _ => ⟨(fm h).1, (fm h).1, fun u2 h2 => ?_⟩, fun z => absurd e z⟩
      rw [h2, (fm h).2.2.1]
      exact hK _ (S_mminute h _) (by rw [gsn (by decide)]) rfl
  | succ d ih =>
    intro k s m hW hk
    have nk : ¬ (nI N ≤ nI k) := nle (by omega) (by omega)
    obtain ⟨s1, hW1, hz1, hk1, hc1, hr1⟩ := giveAll n 0 s hW (by omega)
    obtain ⟨s2, m2, x2, hx2, p1, p2, hW2, hz2, hc2, hr2⟩ := goAll n 0 s1 m hW1 (by omega)
    obtain ⟨s', m', x, h1, h2, hW', hz', hc, hr⟩ := ih (k + 1) s2 m2 hW2 (by omega)
    refine ⟨s', m', x2 + x, by omega, h2, hW', hz'.trans (hz2.trans hz1), fun B G t ka σ u mc ms c K X h n0 n1 ek q1 q2 hK => ?_, fun B G t ka σ u c K h hK => ?_⟩
    · rw [wS_X5_pass_47]
      refine ⟨fun z => absurd z nk, fun _ => ⟨(fd h).1, n + 1, hc1 B G t ka σ u _ h n0 (fun u1 hS1 => ?_)⟩⟩
      refine ⟨3 * (m2 - m), 1000 * (m2 - m), by omega, by omega, (fd hS1).1, n + 1, ?_⟩
      refine hc2 B G t ka σ u1 _ _ 0 _ hS1 n0 n1 (ek.trans hk1.symm) (Nat.le_refl _) (Nat.le_refl _) (fun t2 u2 hS2 l0 l1 => ?_)
      show w_X5_pass_47 G (B 0 0) (nI N) K X (d + 1) (nI c + nI (0 + x2)) (nI k + 1) _ _ u2
      rw [Nat.zero_add, nI_add, nI_1]
      refine hc B G t2 (kf s2 m2) σ u2 _ _ (c + x2) K X hS2 l0 l1 rfl (by omega) (by omega) (fun t3 u3 hS3 r0 r1 => ?_)
      rw [Nat.add_assoc]
      exact hK t3 u3 hS3 r0 r1
    · rw [wS_X6_pass_43]
      refine ⟨fun z => absurd z nk, fun _ => ⟨n + 1, hr1 B G t ka σ u (nI N) (nI c) (nI k) K _ h (fun u1 hS1 g1 g2 => ⟨n + 1, ?_⟩)⟩⟩
      refine hr2 B G t ka σ u1 (nI N) (nI k) c K _ hS1 (fun u2 hS2 g3 g4 => ?_)
      rw [nI_1]
      refine hr B G t ka σ u2 (c + x2) K hS2 (fun u3 hS3 g5 g6 => ?_)
      rw [Nat.add_assoc]
      exact hK u3 hS3 (g5.trans (g3.trans g1)) (g6.trans (g4.trans g2))
theorem I_2 {n m : Nat} (h : Iw s n m) (v : Int32) (hv : ∃ y, y ≤ 1000 ∧ v = nI y) : Iw (up2 s 2 0 v) n m := by
  obtain ⟨⟨j0, j1, j2, j3, j4, j5⟩, i1, i2, i3, i4, i5, i6, i7, i8, i9, i10⟩ := h
  refine Iw_st ⟨⟨j0, j1, j2, j3, j4, ?_⟩, i1, i2, i3, i4, i5, i6, i7, i8, i9, i10⟩ (kf_cong m rfl (fun j => rfl))
  obtain ⟨y, hy, e⟩ := hv
  exact ⟨y, hy, by rw [up2_at, if_pos ⟨rfl, rfl⟩]; exact e⟩
theorem pas1 {p c : Nat} (hp : p ≤ 1000) (hc : c ≤ 60) (h : p + c ≤ 1000) : nI p ≤ (1000 : Int32) - nI c ∧ nI p + nI c ≤ (1000 : Int32) := by
  have e : (1000 : Int32) = nI 1000 := rfl
  refine ⟨?_, ?_⟩
  · rw [e, pk_sub (by omega), nI_leI (by omega) (by omega)]; omega
  · rw [e, nI_add, nI_leI (by omega) (by omega)]; omega
theorem pas2 {p c : Nat} (hp : p ≤ 1000) (hc : c ≤ 60) (h : ¬ p + c ≤ 1000) : ¬ (nI p ≤ (1000 : Int32) - nI c) ∧ ¬ (nI p + nI c ≤ (1000 : Int32)) := by
  have e : (1000 : Int32) = nI 1000 := rfl
  refine ⟨?_, ?_⟩
  · rw [e, pk_sub (by omega), nI_leI (by omega) (by omega)]; omega
  · rw [e, nI_add, nI_leI (by omega) (by omega)]; omega
theorem Pt_p {q mc ms m' : Nat} (h : Pt (q + 1) mc ms t) (h1 : t 3 1 ≤ m') (h2 : m' ≤ 300) : 3 * (m' - t 3 1) ≤ mc ∧ 1000 * (m' - t 3 1) ≤ ms ∧ ∀ t' : Nat → Nat → Nat, t' 3 1 = m' → Pt q (mc - 3 * (m' - t 3 1)) (ms - 1000 * (m' - t 3 1)) t' := by
  unfold Pt at *
  refine ⟨by omega, by omega, fun t' e => ?_⟩
  rw [e]; omega
theorem p_520 (L : Nat) (xs : Nat → Int32) (J : Nat → Nat → Nat → Int32 → Nat → Nat → Mem → Prop) {v4 : Int32} {mc ms q : Nat} (a1 : vp_in (v4 + 1) L) (h : S2 B G s t ka s u) (hI : Iv s t ka) (hP : Pt (q + 1) mc ms t) (hJ : HJ B G q (J (B 0 0) (B 0 1) (B 0 2) (v4 + 4))) : w_L_law_520 G L xs J (B 0 0) (B 0 1) (B 0 2) v4 mc ms u := by
  obtain ⟨b1, b2, b3, b4⟩ := Pt_1 hP
  have bad : ∀ x1 : Int32, (x1 < 1 ∨ ¬ x1 ≤ 60) → xs (v4 + 1).toNatClampNeg = x1 → w_L_law_520 G L xs J (B 0 0) (B 0 1) (B 0 2) v4 mc ms u := by
    intro x1 hx e
    refine ⟨a1, 1, 6, b1, b2, ?_⟩
    rw [e]
    refine ⟨1, 6, Nat.le_refl _, Nat.le_refl _, (fd h).1, ?_⟩
    by_cases n1 : x1 < 1
    · simp [w_X5_pass, w_X5_pass_11, w_X6_pass, w_L_law_573, w_X6_isStreet, w_X6_isEscort, w_X6_isWalk, w_X6_in, w_X6_fails, w_X6_thrown, w_L_law_1347, vp0, cmpS, fd h, fm h, a1, n1, gL_setI, gK_setI, gI_setI, gR_setI, gN_setI, gA_setI, gB_setI, gJ_setI, gO_setI, gL_setR, gK_setR, gI_setR, gR_setR, gN_setR, gA_setR, gB_setR, gJ_setR, gO_setR, gL_setA, gK_setA, gI_setA, gR_setA, gN_setA, gA_setA, gB_setA, gJ_setA, gO_setA, gL_setB, gK_setB, gI_setB, gR_setB, gN_setB, gA_setB, gB_setB, gJ_setB, gO_setB, gL_setJ, gK_setJ, gI_setJ, gR_setJ, gN_setJ, gA_setJ, gB_setJ, gJ_setJ, gO_setJ, gL_setC, gK_setC, gI_setC, gR_setC, gN_setC, gA_setC, gB_setC, gJ_setC, gO_setC, gK_mNew, gI_mNew, gR_mNew, gN_mNew, gA_mNew, gB_mNew, gJ_mNew]
      exact hJ _ _ _ _ _ _ (S_thrown (S_thrown h _ _) _ _) hI b3
    · have m1 := hx.resolve_left n1
      have o1 : (60 : Int32) < x1 := Int32.not_le.mp m1
      simp [w_X5_pass, w_X5_pass_11, w_X6_pass, w_L_law_573, w_X6_isStreet, w_X6_isEscort, w_X6_isWalk, w_X6_in, w_X6_fails, w_X6_thrown, w_L_law_1347, vp0, cmpS, fd h, fm h, a1, n1, m1, o1, gL_setI, gK_setI, gI_setI, gR_setI, gN_setI, gA_setI, gB_setI, gJ_setI, gO_setI, gL_setR, gK_setR, gI_setR, gR_setR, gN_setR, gA_setR, gB_setR, gJ_setR, gO_setR, gL_setA, gK_setA, gI_setA, gR_setA, gN_setA, gA_setA, gB_setA, gJ_setA, gO_setA, gL_setB, gK_setB, gI_setB, gR_setB, gN_setB, gA_setB, gB_setB, gJ_setB, gO_setB, gL_setJ, gK_setJ, gI_setJ, gR_setJ, gN_setJ, gA_setJ, gB_setJ, gJ_setJ, gO_setJ, gL_setC, gK_setC, gI_setC, gR_setC, gN_setC, gA_setC, gB_setC, gJ_setC, gO_setC, gK_mNew, gI_mNew, gR_mNew, gN_mNew, gA_mNew, gB_mNew, gJ_mNew]
      exact hJ _ _ _ _ _ _ (S_thrown (S_thrown h _ _) _ _) hI b3
  by_cases n1 : xs (v4 + 1).toNatClampNeg < 1
  · exact bad _ (.inl n1) rfl
  · by_cases m1 : xs (v4 + 1).toNatClampNeg ≤ 60
    · obtain ⟨N, hN, eN⟩ := nI_of2 (n := 60) (M := 60) (by decide) (fun z => n1 (Int32.lt_trans z (by decide))) m1
      obtain ⟨p, hp, e2⟩ := hI.1.2.2.2.2.2
      have e197 : mI u 197 (B 0 0) = nI p := (fd h).2.2.2.2.2.2.1.trans e2
      rw [eN] at n1 m1
      by_cases hpN : p + N ≤ 1000
      · have hh := pas1 hp hN hpN
        obtain ⟨s', m', x, h1, h2, hW, hz, hc, hr⟩ := minutes (n := t 3 0) hN N 0 s (t 3 1) (Iw_of hI) (by omega)
        obtain ⟨p1, p2, p3⟩ := Pt_p hP h1 h2
        refine ⟨a1, 3 * (m' - t 3 1), 1000 * (m' - t 3 1), p1, p2, ?_⟩
        rw [eN]
        refine ⟨3 * (m' - t 3 1), 1000 * (m' - t 3 1), Nat.le_refl _, Nat.le_refl _, (fd h).1, fun z => absurd z n1, fun _ => ⟨fun _ => ⟨(fd h).1, ?_⟩, fun z => absurd m1 z⟩⟩
        rw [e197]
        refine ⟨fun _ => ⟨N + 1, ?_⟩, fun z => absurd hh.1 z⟩
        refine hc B G t ka s u _ _ 0 _ _ h rfl rfl (ka_of hI) (Nat.le_refl _) (Nat.le_refl _) (fun t' u' hS' l0 l1 => out1 hS' (fun hS hO => ⟨a1, (fm hS).1, (fm hS).1, fun u1 hu1 => ?_⟩))
        have hS1 := S_thrown hS (B 0 1) 0
        have g1 : mI u1 224 (B 0 1) = 0 := by rw [hu1]; exact gse
        have g2 : mJ u1 (B 0 2) 0 = (nI (0 + x)).toInt64 := by rw [hu1, gJ_setI]; exact hO
        rw [← hu1] at hS1
        clear hu1
        have e226 : mI u1 226 (B 0 1) = nI p := (fm hS1).2.2.1.trans e2
        have o1 : ¬ ((60 : Int32) < nI N) := Int32.not_lt.mpr m1
        refine ⟨fun z => absurd z n1, fun _ => ⟨fun z => absurd z o1, fun _ => ⟨.inr rfl, fun z => absurd z (by decide), fun _ => ⟨(fm hS1).1, ?_⟩⟩⟩⟩
        rw [e226]
        refine ⟨fun _ => ⟨N + 1, ?_⟩, fun z => absurd hh.2 z⟩
        refine hr B G t' (kf s' m') _ u1 0 _ hS1 (fun u2 hS2 g3 g4 => ?_)
        have hWf := I_2 hW (s' 2 0 + nI N) ⟨p + N, hpN, by rw [hz, e2, nI_add]⟩
        refine fin1 (A := w_L_law_573 G L xs J (B 0 0) (B 0 1) (B 0 2) v4 (mc - 3 * (m' - t 3 1)) (ms - 1000 * (m' - t 3 1))) hS2 (g3.trans g1) (fun _ => g4.trans g2) (hJ _ _ _ _ _ _ hS2 (Iv_of hWf l0 l1 (kf_cong m' rfl (fun j => rfl)).symm) (p3 _ l1))
      · have hh := pas2 hp hN hpN
        refine ⟨a1, 1, 6, b1, b2, ?_⟩
        rw [eN]
        refine ⟨1, 6, Nat.le_refl _, Nat.le_refl _, (fd h).1, fun z => absurd z n1, fun _ => ⟨fun _ => ⟨(fd h).1, ?_⟩, fun z => absurd m1 z⟩⟩
        rw [e197]
        refine ⟨fun z => absurd z hh.1, fun _ => ⟨Nat.le_refl _, Nat.le_refl _, .inr ⟨rfl, a1, (fm h).1, (fm h).1, fun u1 hu1 => ?_⟩⟩⟩
        have hS1 := S_thrown h (B 0 1) 0
        rw [← hu1] at hS1
        clear hu1
        have e226 : mI u1 226 (B 0 1) = nI p := (fm hS1).2.2.1.trans e2
        have o1 : ¬ ((60 : Int32) < nI N) := Int32.not_lt.mpr m1
        refine ⟨fun z => absurd z n1, fun _ => ⟨fun z => absurd z o1, fun _ => ⟨.inr rfl, fun z => absurd z (by decide), fun _ => ⟨(fm hS1).1, ?_⟩⟩⟩⟩
        rw [e226]
        refine ⟨fun z => absurd z hh.2, fun _ => ⟨(fm hS1).1, (fm hS1).1, fun u2 hu2 => ?_⟩⟩
        have hS2 := S_thrown hS1 (B 0 1) 2
        have g1 : mI u2 224 (B 0 1) = 2 := by rw [hu2]; exact gse
        rw [← hu2] at hS2
        exact fin1 (A := w_L_law_573 G L xs J (B 0 0) (B 0 1) (B 0 2) v4 (mc - 1) (ms - 6)) hS2 g1 (fun z => absurd z (by decide)) (hJ _ _ _ _ _ _ hS2 hI b3)
    · exact bad _ (.inr m1) rfl
end S2P
