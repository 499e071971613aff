section S2P
variable {B : Nat → Nat → Nat} {G : Ctx} {s s2 : Nat → Nat → Int32} {t : Nat → Nat → Nat} {ka : List Nat} {u : Mem}
theorem c_over_l (h : S2 B G s t ka s2 u) (hn : t 3 0 ≤ 60) {K : Int32 → Mem → Prop} (hY : (∀ w, w < t 3 0 → s 13 w = 3) → K 1 u) (hN : (¬ ∀ w, w < t 3 0 → s 13 w = 3) → K 0 u) : ∀ d i, i + d = t 3 0 → (∀ w, w < i → s 13 w = 3) → w_X5_areAllOver_2 G (B 0 0) K (d + 1) (nI i) u := by
  intro d
  obtain ⟨f1, f2, f3, f4, f5, f6, f7, f8, f9, f10, f11, f12, f13, f14, f15, f16, f17, f18, f19, f20, f21, f22⟩ := fd h
  induction d with
  | zero =>
    intro i hi hno
    have e : nI (t 3 0) ≤ nI i := by rw [nI_leI (by omega) (by omega)]; omega
    rw [wS_X5_areAllOver_2]
    refine ⟨f1, fun r hr => ⟨_, hr.trans f4, f15, f15, ?_⟩⟩
    rw [f18]
    exact ⟨fun _ => ⟨.inr rfl, hY (fun w hw => hno w (by omega))⟩, fun z => absurd e z⟩
  | succ d ih =>
    intro i hi hno
    have hi2 : i < t 3 0 := by omega
    rw [wS_X5_areAllOver_2]
    refine ⟨f1, fun r hr => ⟨_, hr.trans f4, f15, f15, ?_⟩⟩
    rw [f18]
    refine ⟨fun z => absurd z (nle hi2 (by omega)), fun _ => ⟨f1, fun r hr => ⟨_, hr.trans f4, f15, ?_⟩⟩⟩
    rw [w_get0 h hi2]
    obtain ⟨g1, g2, g3, g4, g5, g6, g7, g8⟩ := fw h hi2
    refine ⟨_, rfl, g1, g1, ?_⟩
    rw [g5]
    refine ⟨fun z => ?_, fun z => ⟨.inl rfl, hN (fun y => z (y i hi2))⟩⟩
    rw [nI_1]
    exact ih (i + 1) (by omega) (fun w hw => by
      rcases Nat.lt_or_ge w i with y | y
      · exact hno w y
      · rw [show w = i by omega]; exact z)
theorem c_over (h : S2 B G s t ka s2 u) (hn : t 3 0 ≤ 60) {K : Int32 → Mem → Prop} (hY : (∀ w, w < t 3 0 → s 13 w = 3) → K 1 u) (hN : (¬ ∀ w, w < t 3 0 → s 13 w = 3) → K 0 u) : w_X5_areAllOver G (B 0 0) u K :=
  ⟨t 3 0 + 1, c_over_l h hn hY hN (t 3 0) 0 (by omega) (fun w hw => absurd hw (by omega))⟩
theorem m_cnt_l (h : S2 B G s t ka s2 u) {m : Nat} (hm : s2 17 0 = nI m) (hn : m ≤ 300) {K : Int32 → Mem → Prop} : ∀ d i c, i + d = m → K (nI (c + ((List.range' i d).filter (fun j => decide (s2 21 j = s2 1 0))).length)) u → w_X6_night_86 G (B 0 1) K (d + 1) (nI c) (nI i) u := by
  intro d
  have f := (fm h).1
  have e241 : mI u 241 (B 0 1) = nI m := by rw [← hm]; exact (fm h).2.2.2.2.1
  have e225 : mI u 225 (B 0 1) = s2 1 0 := (fm h).2.1
  induction d with
  | zero =>
    intro i c hi hK
    have e : nI m ≤ nI i := by rw [nI_leI (by omega) (by omega)]; omega
    rw [wS_X6_night_86]
    refine ⟨f, ?_⟩
    rw [e241]
    exact ⟨fun _ => by simpa using hK, fun z => absurd e z⟩
  | succ d ih =>
    intro i c hi hK
    have hi2 : i < m := by omega
    have w := vp_in_nI (n := i) (N := 300) (by omega) (by decide)
    have cl := nIc (i := i) (N := 300) (by omega) (by decide)
    obtain ⟨p1, p2, p3, p4⟩ := fa_p h (i := i) (by omega)
    have r21 := fr h (k := 21) (by unfold ak; omega)
    rw [wS_X6_night_86]
    refine ⟨f, ?_⟩
    rw [e241]
    refine ⟨fun z => absurd z (nle hi2 (by omega)), fun _ => ⟨f, fun r hr => ⟨_, hr.trans r21.1, r21.2.1, by rw [r21.2.2]; exact w, f, ?_⟩⟩⟩
    rw [cl, p4, e225]
    rw [List.range'_succ, List.filter_cons] at hK
    refine ⟨fun z => ?_, fun z => ?_⟩
    · rw [if_pos (by simpa using z)] at hK
      show w_X6_night_86 G (B 0 1) K (d + 1) (nI c + 1) (nI i + 1) u
      rw [nI_1, nI_1]
      exact ih (i + 1) (c + 1) (by omega) (by rw [List.length_cons] at hK; rw [Nat.add_right_comm, Nat.add_assoc]; exact hK)
    · rw [if_neg (by simpa using z)] at hK
      show w_X6_night_86 G (B 0 1) K (d + 1) (nI c + 0) (nI i + 1) u
      rw [Int32.add_zero, nI_1]
      exact ih (i + 1) c (by omega) hK
theorem m_night_l (h : S2 B G s t ka s2 u) {n m : Nat} (h10 : s2 10 0 = nI n) (hn : n ≤ 60) (hm : s2 17 0 = nI m) (hm3 : m ≤ 300) {K : Int32 → Mem → Prop} : ∀ d i v, i + d = n → (v = 0 ∨ v = 1) → ((v = 1 ∧ ∀ k, i ≤ k → k < n → s2 13 k = 3) → K (nI ((List.range m).filter (fun j => decide (s2 21 j = s2 1 0 + 1))).length) (setI (setI u 225 (B 0 1) (s2 1 0 + 1)) 226 (B 0 1) 0)) → ((¬ (v = 1 ∧ ∀ k, i ≤ k → k < n → s2 13 k = 3)) → K 0 (setI u 224 (B 0 1) 1)) → w_X6_night_23 G (B 0 1) K (d + 1) v (nI i) u := by
  intro d
  have f := (fm h).1
  have e234 : mI u 234 (B 0 1) = nI n := by rw [← h10]; exact (fm h).2.2.2.1
  have e225 : mI u 225 (B 0 1) = s2 1 0 := (fm h).2.1
  induction d with
  | zero =>
    intro i v hi hv hY hN
    have e : nI n ≤ nI i := by rw [nI_leI (by omega) (by omega)]; omega
    rw [wS_X6_night_23]
    refine ⟨f, ?_⟩
    rw [e234, e225]
    refine ⟨fun _ => ⟨fun z => ⟨f, f, fun u1 h1 => ?_⟩, fun z => ⟨f, f, fun u1 h1 => ⟨?_, fun u2 h2 => ⟨m + 1, ?_⟩⟩⟩⟩, fun z => absurd e z⟩
    · rw [h1]; exact hN (fun y => by rw [z] at y; exact absurd y.1 (by decide))
    · rw [h1]; exact f
    · have hS := S_mminute (S_mday h (s2 1 0 + 1)) 0
      rw [← h1, ← h2] at hS
      have hY := hY ⟨hv.resolve_left z, fun k k1 k2 => absurd k1 (by omega)⟩
      rw [← h1, ← h2] at hY
      refine m_cnt_l hS (m := m) (by simpa [up2] using hm) hm3 m 0 0 (by omega) ?_
      rw [← List.range_eq_range', Nat.zero_add]
      simpa [up2] using hY
  | succ d ih =>
    intro i v hi hv hY hN
    have hi2 : i < n := by omega
    have w := vp_in_nI (n := i) (N := 60) (by omega) (by decide)
    have cl := nIc (i := i) (N := 60) (by omega) (by decide)
    have p13 : mA u (B 4 13) i = s2 13 i := fa h (k := 13) (by unfold ak; omega) (by show i < 60; omega)
    have r13 := fr h (k := 13) (by unfold ak; omega)
    rw [wS_X6_night_23]
    refine ⟨f, ?_⟩
    rw [e234]
    refine ⟨fun z => absurd z (nle hi2 (by omega)), fun _ => ⟨fun hv0 => ?_, fun hv0 => ⟨f, fun r hr => ⟨_, hr.trans r13.1, r13.2.1, by rw [r13.2.2]; exact w, ?_⟩⟩⟩⟩
    · show w_X6_night_23 G (B 0 1) K (d + 1) 0 (nI i + 1) u
      rw [nI_1]
      subst hv0
      exact ih (i + 1) 0 (by omega) (.inl rfl) (fun y => absurd y.1 (by decide)) (fun _ => hN (fun y => absurd y.1 (by decide)))
    · rw [cl, p13]
      have hv1 := hv.resolve_left hv0
      subst hv1
      refine ⟨fun z => ?_, fun z => ?_⟩
      · show w_X6_night_23 G (B 0 1) K (d + 1) 1 (nI i + 1) u
        rw [nI_1]
        have hiff : (∀ k, i + 1 ≤ k → k < n → s2 13 k = 3) → ∀ k, i ≤ k → k < n → s2 13 k = 3 := fun y k k1 k2 => by
          rcases Nat.eq_or_lt_of_le k1 with q | q
          · rw [← q]; exact z
          · exact y k (by omega) k2
        exact ih (i + 1) 1 (by omega) (.inr rfl) (fun y => hY ⟨rfl, hiff y.2⟩) (fun y => hN (fun y2 => y ⟨rfl, fun k k1 k2 => y2.2 k (by omega) k2⟩))
      · show w_X6_night_23 G (B 0 1) K (d + 1) 0 (nI i + 1) u
        rw [nI_1]
        exact ih (i + 1) 0 (by omega) (.inl rfl) (fun y => absurd y.1 (by decide)) (fun _ => hN (fun y => z (y.2 i (Nat.le_refl _) hi2)))
theorem m_night (h : S2 B G s t ka s2 u) {n m : Nat} (h10 : s2 10 0 = nI n) (hn : n ≤ 60) (hm : s2 17 0 = nI m) (hm3 : m ≤ 300) {K : Int32 → Mem → Prop} (hY : (s2 1 0 < 1000 ∧ ∀ k, k < n → s2 13 k = 3) → K (nI ((List.range m).filter (fun j => decide (s2 21 j = s2 1 0 + 1))).length) (setI (setI (setI u 224 (B 0 1) 0) 225 (B 0 1) (s2 1 0 + 1)) 226 (B 0 1) 0)) (hN : (¬ (s2 1 0 < 1000 ∧ ∀ k, k < n → s2 13 k = 3)) → K 0 (setI (setI u 224 (B 0 1) 0) 224 (B 0 1) 1)) : w_X6_night G (B 0 1) u K := by
  have f := (fm h).1
  refine ⟨f, fun u1 h1 => ?_⟩
  have hS := S_thrown h (B 0 1) 0
  rw [← h1] at hS hY hN
  clear h1
  have e225 : mI u1 225 (B 0 1) = s2 1 0 := (fm hS).2.1
  refine ⟨(fm hS).1, ?_⟩
  rw [e225]
  refine ⟨fun z => ⟨n + 1, ?_⟩, fun z => ⟨n + 1, ?_⟩⟩
  · exact m_night_l hS h10 hn hm hm3 n 0 0 (by omega) (.inl rfl) (fun y => absurd y.1 (by decide)) (fun _ => hN (fun y => absurd z (Int32.not_le.mpr y.1)))
  · exact m_night_l hS h10 hn hm hm3 n 0 1 (by omega) (.inr rfl) (fun y => hY ⟨Int32.not_le.mp z, fun k k1 => y.2 k (Nat.zero_le _) k1⟩) (fun y => hN (fun y2 => y ⟨rfl, fun k _ k2 => y2.2 k k2⟩))
theorem nt1 (hI : Iv s t ka) (hd : s 1 0 < 1000) : ∃ d, d < 1000 ∧ s 1 0 = nI d ∧ s 1 0 + 1 = nI (d + 1) ∧ (∀ j, j < t 3 1 → ((s 21 j ≤ s 1 0 + 1 ∧ s 1 0 < s 21 j) ↔ s 21 j = s 1 0 + 1) ∧ ((s 1 0 + 1 < s 21 j ∧ s 1 0 < s 21 j) ↔ s 1 0 + 1 < s 21 j)) := by
  obtain ⟨d, hd1, e⟩ := hI.1.2.2.2.2.1
  rw [e] at hd ⊢
  have hd2 : d < 1000 := (nI_ltI (a := d) (b := 1000) (by omega) (by omega)).mp hd
  refine ⟨d, hd2, rfl, nI_1 d, fun j hj => ?_⟩
  obtain ⟨x, hx, ex⟩ := hI.2.2.2.2.2.2.2.2.2.1 j hj
  rw [ex, nI_1, nI_leI (by omega) (by omega), nI_ltI (by omega) (by omega), nI_ltI (by omega) (by omega), nI_eq (by omega) (by omega)]
  omega
theorem nt2 (hI : Iv s t ka) (hd : s 1 0 < 1000) : (ka.filter (fun j => decide (s 21 j ≤ s 1 0 + 1))).length = ((List.range (t 3 1)).filter (fun j => decide (s 21 j = s 1 0 + 1))).length ∧ ka.filter (fun j => decide (s 1 0 + 1 < s 21 j)) = (List.range (t 3 1)).filter (fun j => decide (s 1 0 + 1 < s 21 j)) := by
  obtain ⟨d, _, _, _, hh⟩ := nt1 hI hd
  have eka := hI.2.2.2.2.2.2.2.2.2.2
  constructor
  · rw [eka, List.filter_filter]
    congr 1
    refine List.filter_congr (fun j hj => ?_)
    have := (hh j (List.mem_range.mp hj)).1
    rw [← Bool.decide_and]
    exact decide_eq_decide.mpr this
  · rw [eka, List.filter_filter]
    refine List.filter_congr (fun j hj => ?_)
    have := (hh j (List.mem_range.mp hj)).2
    rw [← Bool.decide_and]
    exact decide_eq_decide.mpr this
theorem I_night (hI : Iv s t ka) (hd : s 1 0 < 1000) : Iv (up2 (up2 s 1 0 (s 1 0 + 1)) 2 0 0) t (ka.filter (fun j => decide (s 1 0 + 1 < s 21 j))) := by
  obtain ⟨d, hd1, e1, e2, _⟩ := nt1 hI hd
  have e3 := (nt2 hI hd).2
  obtain ⟨⟨j0, j1, j2, j3, j4, j5⟩, i1, i2, i3, i4, i5, i6, i7, i8, i9, i10⟩ := hI
  refine ⟨⟨j0, j1, by simpa [up2_at] using j2, by simpa [up2_at] using j3, ⟨d + 1, by omega, by simpa [up2_at] using e2⟩, ⟨0, by omega, by simp [up2_at]; rfl⟩⟩, by simpa [up2_at] using i1, by simpa [up2_at] using i2, by simpa [up2_at] using i3, by simpa [up2_at] using i4, by simpa [up2_at] using i5, by simpa [up2_at] using i6, by simpa [up2_at] using i7, by simpa [up2_at] using i8, by simpa [up2_at] using i9, ?_⟩
  simpa [up2_at] using e3
theorem c_nightY (h : S2 B G s t ka s2 u) (hI : Iv s t ka) (hd : s 1 0 < 1000) (ho : ∀ w, w < t 3 0 → s 13 w = 3) {K : Int32 → Mem → Prop} {X : String → Mem → Prop} (hK : ∀ u', S2 B G (up2 (up2 s 1 0 (s 1 0 + 1)) 2 0 0) t (ka.filter (fun j => decide (s 1 0 + 1 < s 21 j))) s2 u' → K (nI (ka.filter (fun j => decide (s 21 j ≤ s 1 0 + 1))).length) u') : w_X5_night G (B 0 0) 1 6 u K X := by
  have f1 := (fd h).1
  refine ⟨f1, c_over h hI.1.1 (fun _ => ⟨fun z => absurd z (by decide), fun _ => ⟨f1, ?_⟩⟩) (fun z => absurd ho z)⟩
  have e196 : mI u 196 (B 0 0) = s 1 0 := (fd h).2.2.2.2.2.1
  rw [e196]
  refine ⟨fun _ => ⟨f1, f1, fun u5 h5 => ?_⟩, fun z => absurd hd z⟩
  have h5' := S_day h (s 1 0 + 1)
  rw [← h5] at h5'
  refine ⟨(fd h5').1, fun u6 h6 => ?_⟩
  have h6' := S_minute h5' 0
  rw [← h6] at h6'
  clear h5 h6
  have g := fd h6'
  refine ⟨g.1, fun r hr => ⟨g.1, B 0 6, hr.trans g.2.2.2.2.1, g.2.2.2.2.2.2.2.2.2.2.2.1, ?_⟩⟩
  have e9 : mI u6 196 (B 0 0) = s 1 0 + 1 := by rw [g.2.2.2.2.2.1]; simp [up2_at]
  rw [e9]
  refine c_erase h6' (ka_len hI) (fun u' hu => ?_)
  have := hK u' (by simpa [up2_at] using hu)
  simpa [up2_at] using this
theorem c_nightN (h : S2 B G s t ka s2 u) (hI : Iv s t ka) (hno : ¬ (s 1 0 < 1000 ∧ ∀ w, w < t 3 0 → s 13 w = 3)) {K : Int32 → Mem → Prop} {X : String → Mem → Prop} (hX : X "java/lang/IllegalStateException" u) : w_X5_night G (B 0 0) 1 6 u K X := by
  have f1 := (fd h).1
  refine ⟨f1, c_over h hI.1.1 (fun y => ⟨fun z => absurd z (by decide), fun _ => ⟨f1, ?_⟩⟩) (fun _ => ⟨fun _ => ⟨Nat.le_refl _, Nat.le_refl _, hX⟩, fun z => absurd rfl z⟩)⟩
  have e196 : mI u 196 (B 0 0) = s 1 0 := (fd h).2.2.2.2.2.1
  rw [e196]
  exact ⟨fun z => absurd ⟨z, y⟩ hno, fun _ => ⟨Nat.le_refl _, Nat.le_refl _, hX⟩⟩
theorem p_576 (L : Nat) (xs : Nat → Int32) (J : Nat → Nat → Nat → Int32 → Nat → Nat → Mem → Prop) {v4 : Int32} {mc ms q : Nat} (h : S2 B G s t ka s u) (hI : Iv s t ka) (hP : Pt (q + 1) mc ms t) (hJ : HJ B G q (J (B 0 0) (B 0 1) (B 0 2) (v4 + 4))) : w_L_law_576 G L xs J (B 0 0) (B 0 1) (B 0 2) v4 mc ms u := by
  obtain ⟨b1, b2, b3, b4⟩ := Pt_1 hP
  refine ⟨1, 6, b1, b2, ?_⟩
  refine ⟨1, 6, Nat.le_refl _, Nat.le_refl _, (fd h).1, ?_⟩
  by_cases hy : s 1 0 < 1000 ∧ ∀ w, w < t 3 0 → s 13 w = 3
  · refine c_nightY h hI hy.1 hy.2 (fun u' h' => out1 h' (fun hS hO => ⟨(fm hS).1, m_night hS hI.1.2.2.1 hI.1.1 hI.1.2.2.2.1 hI.1.2.1 (fun _ => ?_) (fun z => absurd hy z)⟩))
    have hS2 := S_mminute (S_mday (S_thrown hS (B 0 1) 0) (s 1 0 + 1)) 0
    refine fin1 (A := w_L_law_617 G L xs J (B 0 0) (B 0 1) (B 0 2) v4 (mc - 1) (ms - 6)) hS2 ?_ (fun _ => ?_) (hJ _ _ _ _ _ _ hS2 (I_night hI hy.1) b3)
    · rw [gsn (by decide), gsn (by decide), gse]
    · rw [← (nt2 hI hy.1).1]; exact hO
  · refine c_nightN h hI hy ⟨rfl, (fm h).1, m_night h hI.1.2.2.1 hI.1.1 hI.1.2.2.2.1 hI.1.2.1 (fun z => absurd z hy) (fun _ => ?_)⟩
    have hS2 := S_thrown (S_thrown h (B 0 1) 0) (B 0 1) 1
    exact fin1 (A := w_L_law_617 G L xs J (B 0 0) (B 0 1) (B 0 2) v4 (mc - 1) (ms - 6)) hS2 gse (fun z => absurd z (by decide)) (hJ _ _ _ _ _ _ hS2 hI b3)
end S2P
