section S2P
variable {B : Nat → Nat → Nat} {G : Ctx} {s s2 : Nat → Nat → Int32} {t : Nat → Nat → Nat} {ka : List Nat} {u : Mem}
theorem c_shows (h : S2 B G s t ka s2 u) (hI : Iv s t ka) {i w : Nat} (hi : i < 8) (hw : w < t 3 0) {x3 : Int32} {K : Int32 → Mem → Prop} {X : String → Mem → Prop} (hK : ∀ r, (r = 0 ∨ r = 1) → (r = 1 ↔ ∃ k, k < t 3 1 ∧ Qp s (nI i) (nI w) x3 k ∧ s 1 0 < s 21 k) → K r u) : w_X5_shows G (B 0 0) (nI i) (nI w) x3 1 6 u K X := by
  simp [w_X5_shows, w_X5_isStreet, rg8 hi, fd h]
  refine c_walk' h hI.1.1 hw ?_
  simp [fd h]
  refine c_keeps h (ka_len hI) (fun r hr e => ⟨hr, hK r hr (e.trans (kmem.trans ?_))⟩)
  constructor
  · rintro ⟨k, k1, k2⟩; exact ⟨k, ((ka_iff hI).mp k1).1, k2, ((ka_iff hI).mp k1).2⟩
  · rintro ⟨k, k1, k2, k3⟩; exact ⟨k, (ka_iff hI).mpr ⟨k1, k3⟩, k2⟩
theorem c_showsP (h : S2 B G s t ka s2 u) (hI : Iv s t ka) {i w : Nat} (hi : i < 8) (hw : w < t 3 0) {x3 : Int32} {K : Int32 → Mem → Prop} {X : String → Mem → Prop} (hK : ∀ r, (r = 0 ∨ r = 1) → (r = 1 ↔ ∃ k, k < t 3 1 ∧ Qp s (nI i) (nI w) x3 k ∧ s 1 0 < s 21 k) → K r u) : w_X5_showsByPapers G (B 0 0) (nI i) (nI w) x3 1 6 u K X := by
  simp [w_X5_showsByPapers, w_X5_isStreet, rg8 hi, fd h]
  refine c_walk' h hI.1.1 hw ?_
  simp [fd h]
  exact c_papers h hI.1.2.1 (fun r hr e => ⟨hr, hK r hr e⟩)
theorem m_shows (h : S2 B G s t ka s2 u) (hn : t 3 0 ≤ 60) (h10 : s2 10 0 = nI (t 3 0)) (hm : s2 17 0 = nI (t 3 1)) (h31 : t 3 1 ≤ 300) {i w : Nat} (hi : i < 8) (hw : w < t 3 0) {x3 : Int32} {K : Int32 → Mem → Prop} (hK : ∀ r, (r = 0 ∨ r = 1) → (r = 1 ↔ ∃ k, k < t 3 1 ∧ Qp s2 (nI i) (nI w) x3 k ∧ s2 1 0 < s2 21 k) → K r (setI u 224 (B 0 1) 0)) : w_X6_shows G (B 0 1) (nI i) (nI w) x3 u K := by
  have hS := S_thrown h (B 0 1) 0
  have hr := rgw hw hn
  simp [w_X6_shows, w_X6_shows_21, w_X6_isStreet, w_X6_isWalk, w_X6_in, rg8 hi, hr, fm h, h10, gI_setI, gO_setI]
  refine m_tk hS hm h31 (fun r hr2 e => ⟨fun z => ?_, fun z => ?_⟩)
  · rw [z] at hr2 e; exact hK 0 hr2 e
  · have hr1 := hr2.resolve_left z
    rw [hr1] at e; exact hK 1 (.inr rfl) e
theorem m_showsByPapers (h : S2 B G s t ka s2 u) (hn : t 3 0 ≤ 60) (h10 : s2 10 0 = nI (t 3 0)) (hm : s2 17 0 = nI (t 3 1)) (h31 : t 3 1 ≤ 300) {i w : Nat} (hi : i < 8) (hw : w < t 3 0) {x3 : Int32} {K : Int32 → Mem → Prop} (hK : ∀ r, (r = 0 ∨ r = 1) → (r = 1 ↔ ∃ k, k < t 3 1 ∧ Qp s2 (nI i) (nI w) x3 k ∧ s2 1 0 < s2 21 k) → K r (setI u 224 (B 0 1) 0)) : w_X6_showsByPapers G (B 0 1) (nI i) (nI w) x3 u K := by
  have hS := S_thrown h (B 0 1) 0
  have hr := rgw hw hn
  simp [w_X6_showsByPapers, w_X6_showsByPapers_21, w_X6_isStreet, w_X6_isWalk, w_X6_in, rg8 hi, hr, fm h, h10, gI_setI, gO_setI]
  refine m_tk hS hm h31 (fun r hr2 e => ⟨fun z => ?_, fun z => ?_⟩)
  · rw [z] at hr2 e; exact hK 0 hr2 e
  · have hr1 := hr2.resolve_left z
    rw [hr1] at e; exact hK 1 (.inr rfl) e
theorem c_pics (h : S2 B G s t ka s2 u) {K : Int32 → Mem → Prop} (hK : K (nI ka.length) u) : w_X5_pictures G (B 0 0) u K := by
  simp [w_X5_pictures, w_X0_countKept, w_Jx4a65c_size_8abf5, fd h, hK]
theorem m_pics_l (h : S2 B G s t ka s2 u) {m : Nat} (hm : s2 17 0 = nI m) (hn : m ≤ 300) {K : Int32 → Mem → Prop} : ∀ d i c, i + d = m → K (nI (c + ((List.range' i d).filter (fun j => decide (s2 1 0 < s2 21 j))).length)) u → w_X6_pictures_9 G (B 0 1) K (d + 1) (nI c) (nI i) u := by
  intro d
  have f := (fm h).1
  have e241 : mI u 241 (B 0 1) = nI m := by rw [← hm]; exact (fm h).2.2.2.2.1
  have e225 : mI u 225 (B 0 1) = s2 1 0 := (fm h).2.1
  induction d with
  | zero =>
    intro i c hi hK
    have e : nI m ≤ nI i := by rw [nI_leI (by omega) (by omega)]; omega
    rw [wS_X6_pictures_9]
    refine ⟨f, ?_⟩
    rw [e241]
    exact ⟨fun _ => by simpa using hK, fun z => absurd e z⟩
  | succ d ih =>
    intro i c hi hK
    have hi2 : i < m := by omega
    have w := vp_in_nI (n := i) (N := 300) (by omega) (by decide)
    have cl := nIc (i := i) (N := 300) (by omega) (by decide)
    obtain ⟨p1, p2, p3, p4⟩ := fa_p h (i := i) (by omega)
    have r21 := fr h (k := 21) (by unfold ak; omega)
    rw [wS_X6_pictures_9]
    refine ⟨f, ?_⟩
    rw [e241]
    refine ⟨fun z => absurd z (nle hi2 (by omega)), fun _ => ⟨f, f, fun r hr => ⟨_, hr.trans r21.1, r21.2.1, by rw [r21.2.2]; exact w, ?_⟩⟩⟩
    rw [cl, p4, e225]
    rw [List.range'_succ, List.filter_cons] at hK
    refine ⟨fun z => ?_, fun z => ?_⟩
    · rw [if_neg (by simpa using z)] at hK
      show w_X6_pictures_9 G (B 0 1) K (d + 1) (nI c + 0) (nI i + 1) u
      rw [Int32.add_zero, nI_1]
      exact ih (i + 1) c (by omega) hK
    · rw [if_pos (by simpa using Int32.not_le.mp z)] at hK
      show w_X6_pictures_9 G (B 0 1) K (d + 1) (nI c + 1) (nI i + 1) u
      rw [nI_1, nI_1]
      exact ih (i + 1) (c + 1) (by omega) (by rw [List.length_cons] at hK; rw [Nat.add_right_comm, Nat.add_assoc]; exact hK)
theorem m_pics (h : S2 B G s t ka s2 u) {m : Nat} (hm : s2 17 0 = nI m) (hn : m ≤ 300) {K : Int32 → Mem → Prop} (hK : K (nI ((List.range m).filter (fun j => decide (s2 1 0 < s2 21 j))).length) (setI u 224 (B 0 1) 0)) : w_X6_pictures G (B 0 1) u K := by
  refine ⟨(fm h).1, fun u1 h1 => ⟨m + 1, ?_⟩⟩
  subst h1
  refine m_pics_l (S_thrown h _ _) hm hn m 0 0 (by omega) ?_
  rw [Nat.zero_add, ← List.range_eq_range']
  exact hK
theorem p_1147 (L : Nat) (xs : Nat → Int32) (J : Nat → Nat → Nat → Int32 → Nat → Nat → Mem → Prop) {v4 : Int32} {mc ms q : Nat} (h : S2 B G s t ka s u) (hI : Iv s t ka) (hP : Pt (q + 1) mc ms t) (hJ : HJ B G q (J (B 0 0) (B 0 1) (B 0 2) (v4 + 4))) : w_L_law_1147 G L xs J (B 0 0) (B 0 1) (B 0 2) v4 mc ms u := by
  obtain ⟨b1, b2, b3, b4⟩ := Pt_1 hP
  refine ⟨(fd h).1, c_pics h ⟨(fm h).1, m_pics h hI.1.2.2.2.1 hI.1.2.1 ⟨fun _ => ?_, fun z => z ?_⟩⟩⟩
  · exact hJ _ _ _ _ _ _ (S_thrown h _ _) hI b4
  · rw [← hI.2.2.2.2.2.2.2.2.2.2]
theorem p_1160 (L : Nat) (xs : Nat → Int32) (J : Nat → Nat → Nat → Int32 → Nat → Nat → Mem → Prop) {v4 : Int32} {mc ms q : Nat} (a1 : vp_in (v4 + 1) L) (a2 : vp_in (v4 + 2) L) (a3 : vp_in (v4 + 3) L) (h : S2 B G s t ka s u) (hI : Iv s t ka) (hP : Pt (q + 1) mc ms t) (hJ : HJ B G q (J (B 0 0) (B 0 1) (B 0 2) (v4 + 4))) : w_L_law_1160 G L xs J (B 0 0) (B 0 1) (B 0 2) v4 mc ms u := by
  obtain ⟨b1, b2, b3, b4⟩ := Pt_1 hP
  refine ⟨a1, a2, a3, 1, 6, b1, b2, ?_⟩
  generalize xs (v4 + 1).toNatClampNeg = x1
  generalize xs (v4 + 2).toNatClampNeg = x2
  generalize xs (v4 + 3).toNatClampNeg = x3
  refine ⟨1, 6, Nat.le_refl _, Nat.le_refl _, (fd h).1, ?_⟩
  by_cases n1 : x1 < 0
  · simp [w_X5_shows, w_X6_shows, w_X6_shows_20, w_X6_shows_21, w_X5_isStreet, w_X5_findWalk, w_X5_findWalk_15, w_Jx4a65c_size_8abf5, w_L_law_1238, w_L_law_1244, hI.1.2.2.1, w_X6_isStreet, w_X6_isEscort, w_X6_isWalk, w_X6_in, w_X6_fails, w_X6_thrown, w_L_law_1347, vp0, cmpS, fd h, fm h, a1, a2, a3, n1, gL_setI, gK_setI, gI_setI, gR_setI, gN_setI, gA_setI, gB_setI, gJ_setI, gO_setI, gL_setR, gK_setR, gI_setR, gR_setR, gN_setR, gA_setR, gB_setR, gJ_setR, gO_setR, gL_setA, gK_setA, gI_setA, gR_setA, gN_setA, gA_setA, gB_setA, gJ_setA, gO_setA, gL_setB, gK_setB, gI_setB, gR_setB, gN_setB, gA_setB, gB_setB, gJ_setB, gO_setB, gL_setJ, gK_setJ, gI_setJ, gR_setJ, gN_setJ, gA_setJ, gB_setJ, gJ_setJ, gO_setJ, gL_setC, gK_setC, gI_setC, gR_setC, gN_setC, gA_setC, gB_setC, gJ_setC, gO_setC, gK_mNew, gI_mNew, gR_mNew, gN_mNew, gA_mNew, gB_mNew, gJ_mNew]
    exact hJ _ _ _ _ _ _ (S_thrown h _ _) hI b3
  · by_cases m1 : nI 8 ≤ x1
    · have o1 := og8 m1
      simp [w_X5_shows, w_X6_shows, w_X6_shows_20, w_X6_shows_21, w_X5_isStreet, w_X5_findWalk, w_X5_findWalk_15, w_Jx4a65c_size_8abf5, w_L_law_1238, w_L_law_1244, hI.1.2.2.1, w_X6_isStreet, w_X6_isEscort, w_X6_isWalk, w_X6_in, w_X6_fails, w_X6_thrown, w_L_law_1347, vp0, cmpS, fd h, fm h, a1, a2, a3, n1, o1, gL_setI, gK_setI, gI_setI, gR_setI, gN_setI, gA_setI, gB_setI, gJ_setI, gO_setI, gL_setR, gK_setR, gI_setR, gR_setR, gN_setR, gA_setR, gB_setR, gJ_setR, gO_setR, gL_setA, gK_setA, gI_setA, gR_setA, gN_setA, gA_setA, gB_setA, gJ_setA, gO_setA, gL_setB, gK_setB, gI_setB, gR_setB, gN_setB, gA_setB, gB_setB, gJ_setB, gO_setB, gL_setJ, gK_setJ, gI_setJ, gR_setJ, gN_setJ, gA_setJ, gB_setJ, gJ_setJ, gO_setJ, gL_setC, gK_setC, gI_setC, gR_setC, gN_setC, gA_setC, gB_setC, gJ_setC, gO_setC, gK_mNew, gI_mNew, gR_mNew, gN_mNew, gA_mNew, gB_mNew, gJ_mNew]
      exact hJ _ _ _ _ _ _ (S_thrown h _ _) hI b3
    · obtain ⟨i, hi, rfl⟩ := in8 (by decide) n1 m1
      by_cases n2 : x2 < 0
      · simp [w_X5_shows, w_X6_shows, w_X6_shows_20, w_X6_shows_21, w_X5_isStreet, w_X5_findWalk, w_X5_findWalk_15, w_Jx4a65c_size_8abf5, w_L_law_1238, w_L_law_1244, hI.1.2.2.1, w_X6_isStreet, w_X6_isEscort, w_X6_isWalk, w_X6_in, w_X6_fails, w_X6_thrown, w_L_law_1347, vp0, cmpS, fd h, fm h, a1, a2, a3, rg8 hi, n2, gL_setI, gK_setI, gI_setI, gR_setI, gN_setI, gA_setI, gB_setI, gJ_setI, gO_setI, gL_setR, gK_setR, gI_setR, gR_setR, gN_setR, gA_setR, gB_setR, gJ_setR, gO_setR, gL_setA, gK_setA, gI_setA, gR_setA, gN_setA, gA_setA, gB_setA, gJ_setA, gO_setA, gL_setB, gK_setB, gI_setB, gR_setB, gN_setB, gA_setB, gB_setB, gJ_setB, gO_setB, gL_setJ, gK_setJ, gI_setJ, gR_setJ, gN_setJ, gA_setJ, gB_setJ, gJ_setJ, gO_setJ, gL_setC, gK_setC, gI_setC, gR_setC, gN_setC, gA_setC, gB_setC, gJ_setC, gO_setC, gK_mNew, gI_mNew, gR_mNew, gN_mNew, gA_mNew, gB_mNew, gJ_mNew]
        exact hJ _ _ _ _ _ _ (S_thrown h _ _) hI b3
      · by_cases m2 : nI (t 3 0) ≤ x2
        · have o2 := ogw hI.1.1 m2
          simp [w_X5_shows, w_X6_shows, w_X6_shows_20, w_X6_shows_21, w_X5_isStreet, w_X5_findWalk, w_X5_findWalk_15, w_Jx4a65c_size_8abf5, w_L_law_1238, w_L_law_1244, hI.1.2.2.1, w_X6_isStreet, w_X6_isEscort, w_X6_isWalk, w_X6_in, w_X6_fails, w_X6_thrown, w_L_law_1347, vp0, cmpS, fd h, fm h, a1, a2, a3, rg8 hi, n2, o2, gL_setI, gK_setI, gI_setI, gR_setI, gN_setI, gA_setI, gB_setI, gJ_setI, gO_setI, gL_setR, gK_setR, gI_setR, gR_setR, gN_setR, gA_setR, gB_setR, gJ_setR, gO_setR, gL_setA, gK_setA, gI_setA, gR_setA, gN_setA, gA_setA, gB_setA, gJ_setA, gO_setA, gL_setB, gK_setB, gI_setB, gR_setB, gN_setB, gA_setB, gB_setB, gJ_setB, gO_setB, gL_setJ, gK_setJ, gI_setJ, gR_setJ, gN_setJ, gA_setJ, gB_setJ, gJ_setJ, gO_setJ, gL_setC, gK_setC, gI_setC, gR_setC, gN_setC, gA_setC, gB_setC, gJ_setC, gO_setC, gK_mNew, gI_mNew, gR_mNew, gN_mNew, gA_mNew, gB_mNew, gJ_mNew]
          exact hJ _ _ _ _ _ _ (S_thrown h _ _) hI b3
        · obtain ⟨j, hw, rfl⟩ := in8 (by have := hI.1.1; omega) n2 m2
          refine c_shows h hI hi hw (fun r hr e => ?_)
          have hgo : ∀ x : Int64, (r = 0 ∧ x = 0 ∨ r = 1 ∧ x = 1) → w_L_shows_18 G (B 0 0) (nI i) (nI j) x3 (B 0 2) (fun r644 u643 => (vp_in (v4 + (1 : Int32)) L ∧ (vp_in (v4 + (2 : Int32)) L ∧ (vp_in (v4 + (3 : Int32)) L ∧ (OB u643 (B 0 1) 7 ∧ (w_X6_shows G (B 0 1) (nI i) (nI j) x3 u643 (fun r648 u647 => (OB u647 (B 0 1) 7 ∧ (w_X6_thrown G (B 0 1) u647 (fun r650 u649 => ((r650 = r644 → ((r644 = 0 → (OB u649 (B 0 2) 10 ∧ vp_in (0 : Int32) (mN u649 (B 0 2)) ∧ ((r648 = 0 → (w_L_law_1238 G L xs J (B 0 0) (B 0 1) (B 0 2) v4 (0 : Int64) (mJ u649 (B 0 2) (0 : Int32).toNatClampNeg) (mc - 1) (ms - 6) u649)) ∧ (¬ r648 = 0 → (w_L_law_1238 G L xs J (B 0 0) (B 0 1) (B 0 2) v4 (1 : Int64) (mJ u649 (B 0 2) (0 : Int32).toNatClampNeg) (mc - 1) (ms - 6) u649))))) ∧ (¬ r644 = 0 → (w_L_law_1244 G L xs J (B 0 0) (B 0 1) (B 0 2) v4 (mc - 1) (ms - 6) u649)))) ∧ (¬ r650 = r644 → False))))))))))))
           x (0 : Int32) (B 0 2) (1 - 1) (6 - 6) u := fun x hx => by
            obtain ⟨q1, q2⟩ := h.2.2.2.2.2.2.2.2.2.1
            refine ⟨q1, by rw [q2]; exact vp0, fun u5 h5 => ?_⟩
            subst h5
            have hS := S_out h (B 0 2) 0 x
            refine ⟨a1, a2, a3, (fm hS).1, m_shows hS hI.1.1 hI.1.2.2.1 hI.1.2.2.2.1 hI.1.2.1 hi hw (fun r' hr' e' => ?_)⟩
            have e9 : r' = r := same01 hr' hr e' e
            have hT := S_thrown hS (B 0 1) 0
            refine ⟨(fm hT).1, (fm hT).1, ?_⟩
            rw [gse]
            refine ⟨fun _ => ⟨fun _ => ⟨q1, by show vp_in (0 : Int32) (mN u (B 0 2)); rw [q2]; exact vp0, fun z => ?_, fun z => ?_⟩, fun z => absurd rfl z⟩, fun z => z rfl⟩
            · have ex : x = 0 := by
                rcases hx with ⟨_, y⟩ | ⟨y, _⟩
                · exact y
                · rw [← e9, z] at y; exact absurd y (by decide)
              have em : mJ (setI (setJ u (B 0 2) 0 x) 224 (B 0 1) 0) (B 0 2) (0 : Int32).toNatClampNeg = 0 := by rw [gJ_setI, gJ_setJ, if_pos ⟨rfl, rfl⟩, ex]
              show w_L_law_1238 G L xs J (B 0 0) (B 0 1) (B 0 2) v4 (0 : Int64) (mJ (setI (setJ u (B 0 2) 0 x) 224 (B 0 1) 0) (B 0 2) (0 : Int32).toNatClampNeg) (mc - 1) (ms - 6) _
              rw [em]
              exact ⟨fun _ => hJ _ _ _ _ _ _ hT hI b3, fun y => y (cmpS 0)⟩
            · have ex : x = 1 := by
                rcases hx with ⟨y, _⟩ | ⟨_, y⟩
                · rw [← e9] at y; exact absurd y z
                · exact y
              have em : mJ (setI (setJ u (B 0 2) 0 x) 224 (B 0 1) 0) (B 0 2) (0 : Int32).toNatClampNeg = 1 := by rw [gJ_setI, gJ_setJ, if_pos ⟨rfl, rfl⟩, ex]
              show w_L_law_1238 G L xs J (B 0 0) (B 0 1) (B 0 2) v4 (1 : Int64) (mJ (setI (setJ u (B 0 2) 0 x) 224 (B 0 1) 0) (B 0 2) (0 : Int32).toNatClampNeg) (mc - 1) (ms - 6) _
              rw [em]
              exact ⟨fun _ => hJ _ _ _ _ _ _ hT hI b3, fun y => y (cmpS 1)⟩
          exact ⟨fun z => hgo 0 (.inl ⟨z, rfl⟩), fun z => hgo 1 (.inr ⟨hr.resolve_left z, rfl⟩)⟩
theorem p_1247 (L : Nat) (xs : Nat → Int32) (J : Nat → Nat → Nat → Int32 → Nat → Nat → Mem → Prop) {v4 : Int32} {mc ms q : Nat} (a1 : vp_in (v4 + 1) L) (a2 : vp_in (v4 + 2) L) (a3 : vp_in (v4 + 3) L) (h : S2 B G s t ka s u) (hI : Iv s t ka) (hP : Pt (q + 1) mc ms t) (hJ : HJ B G q (J (B 0 0) (B 0 1) (B 0 2) (v4 + 4))) : w_L_law_1247 G L xs J (B 0 0) (B 0 1) (B 0 2) v4 mc ms u := by
  obtain ⟨b1, b2, b3, b4⟩ := Pt_1 hP
  refine ⟨a1, a2, a3, 1, 6, b1, b2, ?_⟩
  generalize xs (v4 + 1).toNatClampNeg = x1
  generalize xs (v4 + 2).toNatClampNeg = x2
  generalize xs (v4 + 3).toNatClampNeg = x3
  refine ⟨1, 6, Nat.le_refl _, Nat.le_refl _, (fd h).1, ?_⟩
  by_cases n1 : x1 < 0
  · simp [w_X5_showsByPapers, w_X6_showsByPapers, w_X6_showsByPapers_20, w_X6_showsByPapers_21, w_X5_isStreet, w_X5_findWalk, w_X5_findWalk_15, w_Jx4a65c_size_8abf5, w_L_law_1325, w_L_law_1331, hI.1.2.2.1, w_X6_isStreet, w_X6_isEscort, w_X6_isWalk, w_X6_in, w_X6_fails, w_X6_thrown, w_L_law_1347, vp0, cmpS, fd h, fm h, a1, a2, a3, n1, gL_setI, gK_setI, gI_setI, gR_setI, gN_setI, gA_setI, gB_setI, gJ_setI, gO_setI, gL_setR, gK_setR, gI_setR, gR_setR, gN_setR, gA_setR, gB_setR, gJ_setR, gO_setR, gL_setA, gK_setA, gI_setA, gR_setA, gN_setA, gA_setA, gB_setA, gJ_setA, gO_setA, gL_setB, gK_setB, gI_setB, gR_setB, gN_setB, gA_setB, gB_setB, gJ_setB, gO_setB, gL_setJ, gK_setJ, gI_setJ, gR_setJ, gN_setJ, gA_setJ, gB_setJ, gJ_setJ, gO_setJ, gL_setC, gK_setC, gI_setC, gR_setC, gN_setC, gA_setC, gB_setC, gJ_setC, gO_setC, gK_mNew, gI_mNew, gR_mNew, gN_mNew, gA_mNew, gB_mNew, gJ_mNew]
    exact hJ _ _ _ _ _ _ (S_thrown h _ _) hI b3
  · by_cases m1 : nI 8 ≤ x1
    · have o1 := og8 m1
      simp [w_X5_showsByPapers, w_X6_showsByPapers, w_X6_showsByPapers_20, w_X6_showsByPapers_21, w_X5_isStreet, w_X5_findWalk, w_X5_findWalk_15, w_Jx4a65c_size_8abf5, w_L_law_1325, w_L_law_1331, hI.1.2.2.1, w_X6_isStreet, w_X6_isEscort, w_X6_isWalk, w_X6_in, w_X6_fails, w_X6_thrown, w_L_law_1347, vp0, cmpS, fd h, fm h, a1, a2, a3, n1, o1, gL_setI, gK_setI, gI_setI, gR_setI, gN_setI, gA_setI, gB_setI, gJ_setI, gO_setI, gL_setR, gK_setR, gI_setR, gR_setR, gN_setR, gA_setR, gB_setR, gJ_setR, gO_setR, gL_setA, gK_setA, gI_setA, gR_setA, gN_setA, gA_setA, gB_setA, gJ_setA, gO_setA, gL_setB, gK_setB, gI_setB, gR_setB, gN_setB, gA_setB, gB_setB, gJ_setB, gO_setB, gL_setJ, gK_setJ, gI_setJ, gR_setJ, gN_setJ, gA_setJ, gB_setJ, gJ_setJ, gO_setJ, gL_setC, gK_setC, gI_setC, gR_setC, gN_setC, gA_setC, gB_setC, gJ_setC, gO_setC, gK_mNew, gI_mNew, gR_mNew, gN_mNew, gA_mNew, gB_mNew, gJ_mNew]
      exact hJ _ _ _ _ _ _ (S_thrown h _ _) hI b3
    · obtain ⟨i, hi, rfl⟩ := in8 (by decide) n1 m1
      by_cases n2 : x2 < 0
      · simp [w_X5_showsByPapers, w_X6_showsByPapers, w_X6_showsByPapers_20, w_X6_showsByPapers_21, w_X5_isStreet, w_X5_findWalk, w_X5_findWalk_15, w_Jx4a65c_size_8abf5, w_L_law_1325, w_L_law_1331, hI.1.2.2.1, w_X6_isStreet, w_X6_isEscort, w_X6_isWalk, w_X6_in, w_X6_fails, w_X6_thrown, w_L_law_1347, vp0, cmpS, fd h, fm h, a1, a2, a3, rg8 hi, n2, gL_setI, gK_setI, gI_setI, gR_setI, gN_setI, gA_setI, gB_setI, gJ_setI, gO_setI, gL_setR, gK_setR, gI_setR, gR_setR, gN_setR, gA_setR, gB_setR, gJ_setR, gO_setR, gL_setA, gK_setA, gI_setA, gR_setA, gN_setA, gA_setA, gB_setA, gJ_setA, gO_setA, gL_setB, gK_setB, gI_setB, gR_setB, gN_setB, gA_setB, gB_setB, gJ_setB, gO_setB, gL_setJ, gK_setJ, gI_setJ, gR_setJ, gN_setJ, gA_setJ, gB_setJ, gJ_setJ, gO_setJ, gL_setC, gK_setC, gI_setC, gR_setC, gN_setC, gA_setC, gB_setC, gJ_setC, gO_setC, gK_mNew, gI_mNew, gR_mNew, gN_mNew, gA_mNew, gB_mNew, gJ_mNew]
        exact hJ _ _ _ _ _ _ (S_thrown h _ _) hI b3
      · by_cases m2 : nI (t 3 0) ≤ x2
        · have o2 := ogw hI.1.1 m2
          simp [w_X5_showsByPapers, w_X6_showsByPapers, w_X6_showsByPapers_20, w_X6_showsByPapers_21, w_X5_isStreet, w_X5_findWalk, w_X5_findWalk_15, w_Jx4a65c_size_8abf5, w_L_law_1325, w_L_law_1331, hI.1.2.2.1, w_X6_isStreet, w_X6_isEscort, w_X6_isWalk, w_X6_in, w_X6_fails, w_X6_thrown, w_L_law_1347, vp0, cmpS, fd h, fm h, a1, a2, a3, rg8 hi, n2, o2, gL_setI, gK_setI, gI_setI, gR_setI, gN_setI, gA_setI, gB_setI, gJ_setI, gO_setI, gL_setR, gK_setR, gI_setR, gR_setR, gN_setR, gA_setR, gB_setR, gJ_setR, gO_setR, gL_setA, gK_setA, gI_setA, gR_setA, gN_setA, gA_setA, gB_setA, gJ_setA, gO_setA, gL_setB, gK_setB, gI_setB, gR_setB, gN_setB, gA_setB, gB_setB, gJ_setB, gO_setB, gL_setJ, gK_setJ, gI_setJ, gR_setJ, gN_setJ, gA_setJ, gB_setJ, gJ_setJ, gO_setJ, gL_setC, gK_setC, gI_setC, gR_setC, gN_setC, gA_setC, gB_setC, gJ_setC, gO_setC, gK_mNew, gI_mNew, gR_mNew, gN_mNew, gA_mNew, gB_mNew, gJ_mNew]
          exact hJ _ _ _ _ _ _ (S_thrown h _ _) hI b3
        · obtain ⟨j, hw, rfl⟩ := in8 (by have := hI.1.1; omega) n2 m2
          refine c_showsP h hI hi hw (fun r hr e => ?_)
          have hgo : ∀ x : Int64, (r = 0 ∧ x = 0 ∨ r = 1 ∧ x = 1) → w_L_showsByPapers_18 G (B 0 0) (nI i) (nI j) x3 (B 0 2) (fun r644 u643 => (vp_in (v4 + (1 : Int32)) L ∧ (vp_in (v4 + (2 : Int32)) L ∧ (vp_in (v4 + (3 : Int32)) L ∧ (OB u643 (B 0 1) 7 ∧ (w_X6_showsByPapers G (B 0 1) (nI i) (nI j) x3 u643 (fun r648 u647 => (OB u647 (B 0 1) 7 ∧ (w_X6_thrown G (B 0 1) u647 (fun r650 u649 => ((r650 = r644 → ((r644 = 0 → (OB u649 (B 0 2) 10 ∧ vp_in (0 : Int32) (mN u649 (B 0 2)) ∧ ((r648 = 0 → (w_L_law_1325 G L xs J (B 0 0) (B 0 1) (B 0 2) v4 (0 : Int64) (mJ u649 (B 0 2) (0 : Int32).toNatClampNeg) (mc - 1) (ms - 6) u649)) ∧ (¬ r648 = 0 → (w_L_law_1325 G L xs J (B 0 0) (B 0 1) (B 0 2) v4 (1 : Int64) (mJ u649 (B 0 2) (0 : Int32).toNatClampNeg) (mc - 1) (ms - 6) u649))))) ∧ (¬ r644 = 0 → (w_L_law_1331 G L xs J (B 0 0) (B 0 1) (B 0 2) v4 (mc - 1) (ms - 6) u649)))) ∧ (¬ r650 = r644 → False))))))))))))
           x (0 : Int32) (B 0 2) (1 - 1) (6 - 6) u := fun x hx => by
            obtain ⟨q1, q2⟩ := h.2.2.2.2.2.2.2.2.2.1
            refine ⟨q1, by rw [q2]; exact vp0, fun u5 h5 => ?_⟩
            subst h5
            have hS := S_out h (B 0 2) 0 x
            refine ⟨a1, a2, a3, (fm hS).1, m_showsByPapers hS hI.1.1 hI.1.2.2.1 hI.1.2.2.2.1 hI.1.2.1 hi hw (fun r' hr' e' => ?_)⟩
            have e9 : r' = r := same01 hr' hr e' e
            have hT := S_thrown hS (B 0 1) 0
            refine ⟨(fm hT).1, (fm hT).1, ?_⟩
            rw [gse]
            refine ⟨fun _ => ⟨fun _ => ⟨q1, by show vp_in (0 : Int32) (mN u (B 0 2)); rw [q2]; exact vp0, fun z => ?_, fun z => ?_⟩, fun z => absurd rfl z⟩, fun z => z rfl⟩
            · have ex : x = 0 := by
                rcases hx with ⟨_, y⟩ | ⟨y, _⟩
                · exact y
                · rw [← e9, z] at y; exact absurd y (by decide)
              have em : mJ (setI (setJ u (B 0 2) 0 x) 224 (B 0 1) 0) (B 0 2) (0 : Int32).toNatClampNeg = 0 := by rw [gJ_setI, gJ_setJ, if_pos ⟨rfl, rfl⟩, ex]
              show w_L_law_1325 G L xs J (B 0 0) (B 0 1) (B 0 2) v4 (0 : Int64) (mJ (setI (setJ u (B 0 2) 0 x) 224 (B 0 1) 0) (B 0 2) (0 : Int32).toNatClampNeg) (mc - 1) (ms - 6) _
              rw [em]
              exact ⟨fun _ => hJ _ _ _ _ _ _ hT hI b3, fun y => y (cmpS 0)⟩
            · have ex : x = 1 := by
                rcases hx with ⟨y, _⟩ | ⟨_, y⟩
                · rw [← e9] at y; exact absurd y z
                · exact y
              have em : mJ (setI (setJ u (B 0 2) 0 x) 224 (B 0 1) 0) (B 0 2) (0 : Int32).toNatClampNeg = 1 := by rw [gJ_setI, gJ_setJ, if_pos ⟨rfl, rfl⟩, ex]
              show w_L_law_1325 G L xs J (B 0 0) (B 0 1) (B 0 2) v4 (1 : Int64) (mJ (setI (setJ u (B 0 2) 0 x) 224 (B 0 1) 0) (B 0 2) (0 : Int32).toNatClampNeg) (mc - 1) (ms - 6) _
              rw [em]
              exact ⟨fun _ => hJ _ _ _ _ _ _ hT hI b3, fun y => y (cmpS 1)⟩
          exact ⟨fun z => hgo 0 (.inl ⟨z, rfl⟩), fun z => hgo 1 (.inr ⟨hr.resolve_left z, rfl⟩)⟩
end S2P
