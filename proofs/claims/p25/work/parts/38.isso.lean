section S2I
variable {B : Nat → Nat → Nat} {G : Ctx} {s z : Nat → Nat → Int32} {t : Nat → Nat → Nat} {ka : List Nat} {u : Mem}
variable {mc ms : Nat} {K : Int32 → Mem → Prop} {X : String → Mem → Prop}
theorem c_day (h : S2 B G s t ka z u) (hK : K (s 1 0) u) : w_X5_day G (B 0 0) u K := by
  simp [w_X5_day, fd h, hK]
theorem c_minute (h : S2 B G s t ka z u) (hK : K (s 2 0) u) : w_X5_minute G (B 0 0) u K := by
  simp [w_X5_minute, fd h, hK]
theorem c_walks (h : S2 B G s t ka z u) (hK : K (nI (t 3 0)) u) : w_X5_walks G (B 0 0) u K := by
  simp [w_X5_walks, w_Jx4a65c_size_8abf5, fd h, hK]
theorem c_taken (h : S2 B G s t ka z u) (hK : K (nI (t 3 1)) u) : w_X5_taken G (B 0 0) u K := by
  simp [w_X5_taken, w_X0_countTaken, w_Jx4a65c_size_8abf5, fd h, hK]
theorem c_purse (h : S2 B G s t ka z u) {i : Nat} (hi : i < 8) (hK : K (s 3 i) u) : w_X5_purse G (B 0 0) (nI i) mc ms u K X := by
  simp [w_X5_purse, w_X5_findStreet, fd h, fs h hi, rg8 hi, hK]
theorem c_way (h : S2 B G s t ka z u) {f d : Nat} (hf : f < 8) (hd : d < 8) (hK : K (nI (dst f d)) u) : w_X5_way G (B 0 0) (nI f) (nI d) mc ms u K X := by
  simp [w_X5_way, w_X5_isStreet, rg8 hf, rg8 hd]
  exact c_dist hf hd hK
theorem c_streetOf (h : S2 B G s t ka z u) {i : Nat} (hi : i < 4) (hK : K (s 7 i) u) : w_X5_streetOf G (B 0 0) (nI i) mc ms u K X := by
  simp [w_X5_streetOf, w_X5_findEscort, fd h, fe h hi, rg4 hi, hK]
theorem c_rank (h : S2 B G s t ka z u) {i : Nat} (hi : i < 4) (hK : K (s 8 i) u) : w_X5_rank G (B 0 0) (nI i) mc ms u K X := by
  simp [w_X5_rank, w_X5_findEscort, fd h, fe h hi, rg4 hi, hK]
theorem c_state (h : S2 B G s t ka z u) (hn : t 3 0 ≤ 60) {i : Nat} (hi : i < t 3 0) (hK : K (s 13 i) u) : w_X5_state G (B 0 0) (nI i) mc ms u K X := by
  refine ⟨(fd h).1, c_walk' h hn hi ?_⟩
  simp [fw h hi, hK]
theorem c_dark (h : S2 B G s t ka z u) (hn : t 3 0 ≤ 60) {i : Nat} (hi : i < t 3 0) (hK : K (s 15 i) u) : w_X5_dark G (B 0 0) (nI i) mc ms u K X := by
  refine ⟨(fd h).1, c_walk' h hn hi ?_⟩
  simp [fw h hi, hK]
theorem c_escortOf (h : S2 B G s t ka z u) (hn : t 3 0 ≤ 60) {i : Nat} (hi : i < t 3 0) (he : s 14 i = -1 ∨ ∃ e, e < 4 ∧ s 14 i = nI e) (hK : K (s 14 i) u) : w_X5_escortOf G (B 0 0) (nI i) mc ms u K X := by
  refine ⟨(fd h).1, c_walk' h hn hi ?_⟩
  rcases he with y | ⟨e, he, y⟩
  · rw [y] at hK
    simp [fw h hi, y, hK]
  · have z1 : ¬ (nI e = -1) := fun k => absurd (k ▸ nI_pos (n := e) (by omega)) (by decide)
    rw [y] at hK
    simp [fw h hi, y, z1, fe h he, nIc he (by decide : 4 < 2 ^ 31), hK]
/-- the numbers that an object and the rows tell alike -/
def Syn (B : Nat → Nat → Nat) (G : Ctx) (s : Nat → Nat → Int32) (t : Nat → Nat → Nat) (ka : List Nat) (z : Nat → Nat → Int32) (u : Mem) : Prop := S2 B G s t ka z u ∧ Rel s (t 3 0) (t 3 1) z ∧ Iv s t ka ∧ Qi s (t 3 0) (t 3 1)
theorem dec1 {a b c : Nat} (ha : a < 8) (hb : b < 8) (hc : c ≤ 2000) : nI (a + 8 * b + 64 * c) - nI (a + 8 * b + 64 * c) / (8 : Int32) * (8 : Int32) = nI a := by
  have e : nI (a + 8 * b + 64 * c) - nI (a + 8 * b + 64 * c) / nI 8 * nI 8 = nI ((a + 8 * b + 64 * c) % 8) := pk_rem (by omega) (by decide) (by decide)
  rw [show (a + 8 * b + 64 * c) % 8 = a by omega] at e
  exact e
theorem dec0 {a b c : Nat} (ha : a < 8) (hb : b < 8) (hc : c ≤ 2000) : nI (a + 8 * b + 64 * c) / (8 : Int32) = nI (b + 8 * c) := by
  have e : nI (a + 8 * b + 64 * c) / nI 8 = nI ((a + 8 * b + 64 * c) / 8) := pk_div (by omega) (by decide) (by decide)
  rw [show (a + 8 * b + 64 * c) / 8 = b + 8 * c by omega] at e
  exact e
theorem dec2 {a b c : Nat} (ha : a < 8) (hb : b < 8) (hc : c ≤ 2000) : (nI (a + 8 * b + 64 * c) / (8 : Int32)) - (nI (a + 8 * b + 64 * c) / (8 : Int32)) / (8 : Int32) * (8 : Int32) = nI b := by
  rw [dec0 ha hb hc]
  have e : nI (b + 8 * c) - nI (b + 8 * c) / nI 8 * nI 8 = nI ((b + 8 * c) % 8) := pk_rem (by omega) (by decide) (by decide)
  rw [show (b + 8 * c) % 8 = b by omega] at e
  exact e
theorem dec3 {a b c : Nat} (ha : a < 8) (hb : b < 8) (hc : c ≤ 2000) : nI (a + 8 * b + 64 * c) / (64 : Int32) = nI c := by
  have e : nI (a + 8 * b + 64 * c) / nI 64 = nI ((a + 8 * b + 64 * c) / 64) := pk_div (by omega) (by decide) (by decide)
  rw [show (a + 8 * b + 64 * c) / 64 = c by omega] at e
  exact e
theorem is427 (hS : Syn B G s t ka z u) {v v10 : Int32} {a b c : Nat} (ha : a < 8) (hb : b < t 3 0) (hc : c ≤ 2000) {J : Int32 → Int32 → Nat → Nat → Mem → Prop} (hJ : J 1 (v10 + 1) mc ms u) : w_L_isSo_427 G (B 0 0) v (B 4 1) (B 4 2) (B 4 3) (B 4 4) (B 4 5) (B 4 0) K J v10 (nI (a + 8 * b + 64 * c)) mc ms u := by
  obtain ⟨h, hR, hI, hQ⟩ := hS
  have hn8 : t 3 0 ≤ 8 := hQ.1.1
  have hb8 : b < 8 := by omega
  have n64 : ¬ ((64 : Int32) = 0) := by decide
  refine ⟨x8, x8, x8, n64, ?_⟩
  rw [dec1 ha hb8 hc, dec2 ha hb8 hc, dec3 ha hb8 hc]
  refine l_shows h hR hQ.2.1 hn8 (Qb_40 hQ.2.2) ha hb8 hc (fun r hr er => ⟨x8, x8, x8, n64, 0, 0, Nat.zero_le _, Nat.zero_le _, (fd h).1, ?_⟩)
  refine c_shows h hI ha hb (fun r2 hr2 er2 => ⟨fun _ => ⟨x8, x8, x8, n64, 0, 0, Nat.zero_le _, Nat.zero_le _, (fd h).1, ?_⟩, fun y => absurd (same01 hr2 hr er2 er) y⟩)
  exact c_showsP h hI ha hb (fun r3 hr3 er3 => ⟨fun _ => hJ, fun y => absurd (same01 hr3 hr er3 er) y⟩)
theorem is365 (hS : Syn B G s t ka z u) {v v10 : Int32} (hn : 0 < t 3 0) {J : Int32 → Int32 → Nat → Nat → Mem → Prop} (hJ : J 1 (v10 + 1) mc ms u) : w_L_isSo_365 G (B 0 0) v (B 4 1) (B 4 2) (B 4 3) (B 4 4) (B 4 5) (B 4 0) K J v10 mc ms u := by
  have hS' := hS
  obtain ⟨h, hR, hI, hQ⟩ := hS'
  have hn8 : t 3 0 ≤ 8 := hQ.1.1
  obtain ⟨d, hd, ed⟩ := hI.1.2.2.2.2.1
  obtain ⟨o1, o2, o3⟩ := rd h 0 2 (by omega) (x := 2) rfl (by decide)
  obtain ⟨p1, p2, p3⟩ := rd h 0 0 (by omega) (x := 0) rfl (by decide)
  rw [hR.1.2.2.1] at o3
  rw [hR.1.1, ed] at p3
  refine l_low (N := 8) (by decide) (by decide) rfl ⟨o1, o2, ?_⟩
  rw [o3]
  refine l_low hn (by omega) rfl ⟨p1, p2, ?_⟩
  rw [p3]
  refine l_low (N := d + 2) (by omega) (by omega) (nI_add d 2) ?_
  rw [pc1]
  refine is427 hS (lw_lt _ (by decide)) (lw_lt _ hn) ?_ hJ
  have := lw_lt (v >>> ((7 : Int32) &&& 31)) (N := d + 2) (by omega)
  omega
theorem is334 (hS : Syn B G s t ka z u) {v : Int32} (hK : K 1 u) : ∀ g i mc ms, i + g = 4 → w_L_isSo_334 G (B 0 0) v (B 4 1) (B 4 2) (B 4 3) (B 4 4) (B 4 5) (B 4 0) K (g + 1) 1 (nI i) mc ms u := by
  have hS' := hS
  obtain ⟨h, hR, hI, hQ⟩ := hS'
  have hn8 : t 3 0 ≤ 8 := hQ.1.1
  have hm40 := Qb_40 hQ.2.2
  obtain ⟨o1, o2, o3⟩ := rd h 0 2 (by omega) (x := 2) rfl (by decide)
  obtain ⟨p1, p2, p3⟩ := rd h 0 3 (by omega) (x := 3) rfl (by decide)
  rw [hR.1.2.2.1] at o3
  rw [hR.1.2.2.2] at p3
  intro g
  induction g with
  | zero =>
    intro i mc ms hi
    rw [wS_L_isSo_334, show i = 4 by omega]
    exact ⟨fun _ => ⟨.inr rfl, hK⟩, fun y => absurd (by decide) y⟩
  | succ g ih =>
    intro i mc ms hi
    have n4 : ¬ ((4 : Int32) ≤ nI i) := nI_ge (a := i) (b := 4) (by omega) (by omega)
    rw [wS_L_isSo_334]
    refine ⟨fun y => absurd y n4, fun _ => ⟨fun y => absurd y (by decide), fun _ => ⟨o1, o2, ?_⟩⟩⟩
    rw [o3]
    refine ⟨fun _ => ⟨.inr rfl, hK⟩, fun y => ?_⟩
    have hn : 0 < t 3 0 := by
      rcases Nat.eq_zero_or_pos (t 3 0) with q | q
      · rw [q] at y; exact absurd (by decide) y
      · exact q
    have nxt : w_L_isSo_334 G (B 0 0) v (B 4 1) (B 4 2) (B 4 3) (B 4 4) (B 4 5) (B 4 0) K (g + 1) 1 (nI i + 1) mc ms u := by
      rw [nI_1]; exact ih (i + 1) mc ms (by omega)
    refine ⟨p1, p2, ?_⟩
    rw [p3]
    refine ⟨fun _ => is365 hS hn nxt, fun y2 => ⟨fun _ => ⟨p1, p2, ?_⟩, fun _ => is365 hS hn nxt⟩⟩
    have hm : 0 < t 3 1 := by
      rcases Nat.eq_zero_or_pos (t 3 1) with q | q
      · rw [q] at y2; exact absurd rfl y2
      · exact q
    refine l_low hm (by omega) rfl ?_
    have hl := lw_lt (v >>> (((3 : Int32) * nI i) &&& 31)) hm
    generalize lw (v >>> (((3 : Int32) * nI i) &&& 31)) (t 3 1) = k at hl ⊢
    obtain ⟨a1, a2, a3⟩ := rd h 4 k (by omega) (x := nI k) rfl (by show k < 40; omega)
    obtain ⟨a, b, c, g1, g2, g3, g4, g5, g6⟩ := hQ.2.1 k hl
    rw [(hR.2.2.2.2.2 k hl).1, g4, g5, g6, pc1] at a3
    refine ⟨a1, a2, ?_⟩
    rw [a3]
    exact is427 hS g1 g2 (by omega) nxt
theorem is273 (hS : Syn B G s t ka z u) {v : Int32} (hK : K 1 u) : ∀ g i c mc ms, i + g = t 3 1 → c + ((List.range' i g).filter (fun j => decide (s 1 0 < s 21 j))).length = ka.length → w_L_isSo_273 G (B 0 0) v (B 4 1) (B 4 2) (B 4 3) (B 4 4) (B 4 5) (B 4 0) K (g + 1) (nI c) 1 (nI i) mc ms u := by
  have hS' := hS
  obtain ⟨h, hR, hI, hQ⟩ := hS'
  have hm40 := Qb_40 hQ.2.2
  obtain ⟨p1, p2, p3⟩ := rd h 0 3 (by omega) (x := 3) rfl (by decide)
  obtain ⟨q1, q2, q3⟩ := rd h 0 0 (by omega) (x := 0) rfl (by decide)
  rw [hR.1.2.2.2] at p3
  rw [hR.1.1] at q3
  intro g
  induction g with
  | zero =>
    intro i c mc ms hi hc
    have e : nI (t 3 1) ≤ nI i := by rw [nI_leI (by omega) (by omega)]; omega
    rw [wS_L_isSo_273]
    refine ⟨p1, p2, ?_⟩
    rw [p3]
    have hc : c = ka.length := by simpa using hc
    refine ⟨fun _ => ⟨fun y => absurd y (by decide), fun _ => ⟨(fd h).1, c_pics h ⟨fun _ => ?_, fun y => absurd (by rw [hc]) y⟩⟩⟩, fun y => absurd e y⟩
    exact ⟨5, is334 hS hK 4 0 mc ms (by omega)⟩
  | succ g ih =>
    intro i c mc ms hi hc
    have hi2 : i < t 3 1 := by omega
    obtain ⟨a1, a2, a3⟩ := rd h 5 i (by omega) (x := nI i) rfl (by show i < 40; omega)
    rw [(hR.2.2.2.2.2 i hi2).2] at a3
    rw [wS_L_isSo_273]
    refine ⟨p1, p2, ?_⟩
    rw [p3]
    refine ⟨fun y => absurd y (nle hi2 (by omega)), fun _ => ⟨a1, a2, q1, q2, ?_⟩⟩
    rw [a3, q3]
    rw [List.range'_succ, List.filter_cons] at hc
    refine ⟨fun y => ?_, fun y => ?_⟩
    · rw [if_neg (by simpa using y)] at hc
      show w_L_isSo_273 G (B 0 0) v (B 4 1) (B 4 2) (B 4 3) (B 4 4) (B 4 5) (B 4 0) K (g + 1) (nI c + 0) 1 (nI i + 1) mc ms u
      rw [Int32.add_zero, nI_1]
      exact ih (i + 1) c mc ms (by omega) hc
    · rw [if_pos (by simpa using Int32.not_le.mp y)] at hc
      show w_L_isSo_273 G (B 0 0) v (B 4 1) (B 4 2) (B 4 3) (B 4 4) (B 4 5) (B 4 0) K (g + 1) (nI c + 1) 1 (nI i + 1) mc ms u
      rw [nI_1, nI_1]
      exact ih (i + 1) (c + 1) mc ms (by omega) (by rw [List.length_cons] at hc; omega)
theorem is270 (hS : Syn B G s t ka z u) {v : Int32} (hK : K 1 u) : w_L_isSo_270 G (B 0 0) v (B 4 1) (B 4 2) (B 4 3) (B 4 4) (B 4 5) (B 4 0) K 0 1 mc ms u := by
  refine ⟨t 3 1 + 1, is273 hS hK (t 3 1) 0 0 mc ms (by omega) ?_⟩
  have e := hS.2.2.1.2.2.2.2.2.2.2.2.2.2
  rw [Nat.zero_add, ← List.range_eq_range']
  rw [← e]
theorem is186 (hS : Syn B G s t ka z u) {v : Int32} (hK : K 1 u) : ∀ g i mc ms, i + g = t 3 0 → w_L_isSo_186 G (B 0 0) v (B 4 1) (B 4 2) (B 4 3) (B 4 4) (B 4 5) (B 4 0) K (g + 1) 0 1 (nI i) mc ms u := by
  have hS' := hS
  obtain ⟨h, hR, hI, hQ⟩ := hS'
  have hn8 : t 3 0 ≤ 8 := hQ.1.1
  obtain ⟨o1, o2, o3⟩ := rd h 0 2 (by omega) (x := 2) rfl (by decide)
  rw [hR.1.2.2.1] at o3
  intro g
  induction g with
  | zero =>
    intro i mc ms hi
    have e : nI (t 3 0) ≤ nI i := by rw [nI_leI (by omega) (by omega)]; omega
    rw [wS_L_isSo_186]
    refine ⟨o1, o2, ?_⟩
    rw [o3]
    exact ⟨fun _ => is270 hS hK, fun y => absurd e y⟩
  | succ g ih =>
    intro i mc ms hi
    have hi2 : i < t 3 0 := by omega
    obtain ⟨r0, r1, r2, r3, r4, r5⟩ := hR.2.2.2.1 i hi2
    obtain ⟨a1, a2, a3⟩ := rd h 3 (6 * i + 2) (by omega) (j62 i) (by show 6 * i + 2 < 48; omega)
    obtain ⟨b1, b2, b3⟩ := rd h 3 (6 * i + 3) (by omega) (j63 i) (by show 6 * i + 3 < 48; omega)
    obtain ⟨c1, c2, c3⟩ := rd h 3 (6 * i + 4) (by omega) (j64 i) (by show 6 * i + 4 < 48; omega)
    rw [r2] at a3; rw [r3] at b3; rw [r4] at c3
    have he : s 14 i = -1 ∨ ∃ e, e < 4 ∧ s 14 i = nI e := by
      rcases hI.2.2.2.2.2.2.2.1 i hi2 with ⟨y, _⟩ | ⟨e, he, y, _⟩
      · exact .inl y
      · exact .inr ⟨e, he, y⟩
    rw [wS_L_isSo_186]
    refine ⟨o1, o2, ?_⟩
    rw [o3]
    refine ⟨fun y => absurd y (nle hi2 (by omega)), fun _ => ⟨fun y => absurd y (by decide), fun _ => ⟨0, 0, Nat.zero_le _, Nat.zero_le _, (fd h).1, c_state h hI.1.1 hi2 ⟨a1, a2, ?_⟩⟩⟩⟩
    rw [a3]
    refine ⟨fun _ => ⟨0, 0, Nat.zero_le _, Nat.zero_le _, (fd h).1, c_escortOf h hI.1.1 hi2 he ⟨b1, b2, ?_⟩⟩, fun y => absurd rfl y⟩
    rw [b3]
    refine ⟨fun _ => ⟨0, 0, Nat.zero_le _, Nat.zero_le _, (fd h).1, c_dark h hI.1.1 hi2 ⟨c1, c2, ?_⟩⟩, fun y => absurd rfl y⟩
    rw [c3]
    refine ⟨fun _ => ?_, fun y => absurd rfl y⟩
    show w_L_isSo_186 G (B 0 0) v (B 4 1) (B 4 2) (B 4 3) (B 4 4) (B 4 5) (B 4 0) K (g + 1) 0 1 (nI i + 1) mc ms u
    rw [nI_1]
    exact ih (i + 1) mc ms (by omega)
theorem is127 (hS : Syn B G s t ka z u) {v : Int32} (hK : K 1 u) : ∀ g i mc ms, i + g = 4 → w_L_isSo_127 G (B 0 0) v (B 4 1) (B 4 2) (B 4 3) (B 4 4) (B 4 5) (B 4 0) K (g + 1) 0 1 (nI i) mc ms u := by
  have hS' := hS
  obtain ⟨h, hR, hI, hQ⟩ := hS'
  intro g
  induction g with
  | zero =>
    intro i mc ms hi
    rw [wS_L_isSo_127, show i = 4 by omega]
    exact ⟨fun _ => ⟨t 3 0 + 1, is186 hS hK (t 3 0) 0 mc ms (by omega)⟩, fun y => absurd (by decide) y⟩
  | succ g ih =>
    intro i mc ms hi
    have hi4 : i < 4 := by omega
    have n4 : ¬ ((4 : Int32) ≤ nI i) := nI_ge (a := i) (b := 4) (by omega) (by omega)
    obtain ⟨g0, g1, g2⟩ := hR.2.2.1 i hi4
    obtain ⟨a1, a2, a3⟩ := rd h 2 (3 * i) (by omega) (j3 i) (by show 3 * i < 12; omega)
    obtain ⟨b1, b2, b3⟩ := rd h 2 (3 * i + 1) (by omega) (j31 i) (by show 3 * i + 1 < 12; omega)
    rw [g0] at a3; rw [g1] at b3
    rw [wS_L_isSo_127]
    refine ⟨fun y => absurd y n4, fun _ => ⟨fun y => absurd y (by decide), fun _ => ⟨0, 0, Nat.zero_le _, Nat.zero_le _, (fd h).1, c_streetOf h hi4 ⟨a1, a2, ?_⟩⟩⟩⟩
    rw [a3]
    refine ⟨fun _ => ⟨0, 0, Nat.zero_le _, Nat.zero_le _, (fd h).1, c_rank h hi4 ⟨b1, b2, ?_⟩⟩, fun y => absurd rfl y⟩
    rw [b3]
    refine ⟨fun _ => ?_, fun y => absurd rfl y⟩
    show w_L_isSo_127 G (B 0 0) v (B 4 1) (B 4 2) (B 4 3) (B 4 4) (B 4 5) (B 4 0) K (g + 1) 0 1 (nI i + 1) mc ms u
    rw [nI_1]
    exact ih (i + 1) mc ms (by omega)
theorem is57 (hS : Syn B G s t ka z u) {v : Int32} (hK : K 1 u) : ∀ g i mc ms, i + g = 8 → w_L_isSo_57 G (B 0 0) v (B 4 1) (B 4 2) (B 4 3) (B 4 4) (B 4 5) (B 4 0) K (g + 1) 0 1 (nI i) mc ms u := by
  have hS' := hS
  obtain ⟨h, hR, hI, hQ⟩ := hS'
  intro g
  induction g with
  | zero =>
    intro i mc ms hi
    rw [wS_L_isSo_57, show i = 8 by omega]
    exact ⟨fun _ => ⟨5, is127 hS hK 4 0 mc ms (by omega)⟩, fun y => absurd (by decide) y⟩
  | succ g ih =>
    intro i mc ms hi
    have hi8 : i < 8 := by omega
    have n8 : ¬ ((8 : Int32) ≤ nI i) := nI_ge (a := i) (b := 8) (by omega) (by omega)
    obtain ⟨a1, a2, a3⟩ := rd h 1 (6 * i) (by omega) (j6 i) (by show 6 * i < 48; omega)
    rw [(hR.2.1 i hi8).1] at a3
    have hl := lw_lt v (N := 8) (by decide)
    rw [wS_L_isSo_57]
    refine ⟨fun y => absurd y n8, fun _ => ⟨fun y => absurd y (by decide), fun _ => ⟨0, 0, Nat.zero_le _, Nat.zero_le _, (fd h).1, c_purse h hi8 ⟨a1, a2, ?_⟩⟩⟩⟩
    rw [a3]
    refine ⟨fun _ => l_low (N := 8) (by decide) (by decide) rfl ⟨0, 0, Nat.zero_le _, Nat.zero_le _, (fd h).1, c_way h hi8 hl (l_low (N := 8) (by decide) (by decide) rfl (l_way hi8 hl ⟨fun _ => ?_, fun y => absurd rfl y⟩))⟩, fun y => absurd rfl y⟩
    show w_L_isSo_57 G (B 0 0) v (B 4 1) (B 4 2) (B 4 3) (B 4 4) (B 4 5) (B 4 0) K (g + 1) 0 1 (nI i + 1) mc ms u
    rw [nI_1]
    exact ih (i + 1) mc ms (by omega)
theorem l_isSo (hS : Syn B G s t ka z u) {v : Int32} (hK : K 1 u) : w_L_isSo G (B 0 0) v (B 4 1) (B 4 2) (B 4 3) (B 4 4) (B 4 5) (B 4 0) mc ms u K := by
  have hS' := hS
  obtain ⟨h, hR, hI, hQ⟩ := hS'
  obtain ⟨a1, a2, a3⟩ := rd h 0 0 (by omega) (x := 0) rfl (by decide)
  obtain ⟨b1, b2, b3⟩ := rd h 0 1 (by omega) (x := 1) rfl (by decide)
  obtain ⟨c1, c2, c3⟩ := rd h 0 2 (by omega) (x := 2) rfl (by decide)
  obtain ⟨d1, d2, d3⟩ := rd h 0 3 (by omega) (x := 3) rfl (by decide)
  rw [hR.1.1] at a3; rw [hR.1.2.1] at b3; rw [hR.1.2.2.1] at c3; rw [hR.1.2.2.2] at d3
  refine ⟨(fd h).1, c_day h ⟨a1, a2, ?_⟩⟩
  rw [a3]
  refine ⟨fun _ => ⟨(fd h).1, c_minute h ⟨b1, b2, ?_⟩⟩, fun y => absurd rfl y⟩
  rw [b3]
  refine ⟨fun _ => ⟨(fd h).1, c_walks h ⟨c1, c2, ?_⟩⟩, fun y => absurd rfl y⟩
  rw [c3]
  refine ⟨fun _ => ⟨(fd h).1, c_taken h ⟨d1, d2, ?_⟩⟩, fun y => absurd rfl y⟩
  rw [d3]
  exact ⟨fun _ => ⟨9, is57 hS hK 8 0 mc ms (by omega)⟩, fun y => absurd rfl y⟩
end S2I
