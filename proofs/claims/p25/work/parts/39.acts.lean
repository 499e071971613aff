section S2A
variable {B : Nat → Nat → Nat} {G : Ctx} {s z : Nat → Nat → Int32} {t : Nat → Nat → Nat} {ka : List Nat} {u : Mem}
variable {mc ms : Nat} {K : Int32 → Mem → Prop} {X : String → Mem → Prop}
theorem c_pay (h : S2 B G s t ka z u) {i p c : Nat} (hi : i < 8) (e3 : s 3 i = nI p) (hc0 : 1 ≤ c) (hc : c ≤ 10000) (hp : p + c ≤ 100000) (hK : ∀ u', S2 B G (up2 s 3 i (nI (p + c))) t ka z u' → K (nI (p + c)) u') : w_X5_pay G (B 0 0) (nI i) (nI c) mc ms u K X := by
  have g1 : ¬ (nI c < (1 : Int32)) := nI_nlt (a := c) (b := 1) (by omega) (by omega)
  have g2 : nI c ≤ (10000 : Int32) := nI_le (a := c) (b := 10000) (by omega) (by omega)
  have g3 := pay1 (p := p) (c := c) (by omega) hc hp
  have hS := S_purse h hi (nI (p + c))
  refine ⟨(fd h).1, c_str h hi ⟨fun y => (by cases y), fun a3 h3 => ?_⟩⟩
  have h3 := (Option.some.inj h3).symm
  subst h3
  have g := fs h hi
  refine ⟨fun y => absurd y g1, fun _ => ⟨fun _ => ⟨g.2.1, ?_⟩, fun y => absurd g2 y⟩⟩
  rw [g.2.2.1, e3]
  refine ⟨fun _ => ⟨g.2.1, g.2.1, fun u7 h7 => ?_⟩, fun y => absurd g3.1 y⟩
  rw [g3.2.1] at h7
  rw [← h7] at hS
  refine ⟨(fs hS hi).2.1, ?_⟩
  rw [(fs hS hi).2.2.1, up2_at, if_pos ⟨rfl, rfl⟩]
  exact hK u7 hS
theorem c_set (h : S2 B G s t ka z u) {i c : Nat} {v : Int32} (hi : i < 8) (hc : c ≤ 50) (hv : v = 0 ∨ v = 1) (hK : ∀ u', S2 B G (up2 (up2 s 4 i (nI c)) 5 i v) t ka z u' → K (s 4 i) u') : w_X5_setStreet G (B 0 0) (nI i) (nI c) v mc ms u K X := by
  have g2 : nI c ≤ (50 : Int32) := nI_le (a := c) (b := 50) (by omega) (by omega)
  refine ⟨(fd h).1, c_str h hi ⟨fun y => (by cases y), fun a3 h3 => ?_⟩⟩
  have h3 := (Option.some.inj h3).symm
  subst h3
  have g := fs h hi
  refine ⟨fun y => absurd y (nI_pos (by omega)), fun _ => ⟨fun _ => ⟨g.2.1, g.2.1, fun u6 h6 => ?_⟩, fun y => absurd g2 y⟩⟩
  have hS := S_price h hi (nI c)
  rw [← h6] at hS
  refine ⟨(fs hS hi).2.1, hv, fun u7 h7 => ?_⟩
  have hS2 := S_cam hS hi v
  rw [← h7] at hS2
  rw [g.2.2.2.1]
  exact hK u7 hS2
theorem c_place (h : S2 B G s t ka z u) {i j : Nat} (hi : i < 4) (hj : j < 8) (z9 : s 9 i = 0) (hK : ∀ u', S2 B G (up2 s 7 i (nI j)) t ka z u' → K (s 7 i) u') : w_X5_place G (B 0 0) (nI i) (nI j) mc ms u K X := by
  simp [w_X5_place, w_X5_findEscort, w_X5_isStreet, fd h, fe h hi, rg4 hi, rg8 hj, z9]
  exact hK _ (S_estreet h hi _)
theorem c_placeX (h : S2 B G s t ka z u) {i j : Nat} (hi : i < 4) (hj : j < 8) (z9 : ¬ s 9 i = 0) (h1 : 1 ≤ mc) (h6 : 6 ≤ ms) (hX : X "java/lang/IllegalStateException" u) : w_X5_place G (B 0 0) (nI i) (nI j) mc ms u K X := by
  simp [w_X5_place, w_X5_findEscort, w_X5_isStreet, fd h, fe h hi, rg4 hi, rg8 hj, z9, h1, h6, hX]
/-- a turn's end: the object and the rows are held against each other, and on -/
def HJ (B : Nat → Nat → Nat) (G : Ctx) (q k : Nat) (J : Nat → Nat → Mem → Prop) : Prop := ∀ s t ka z mc ms u, Syn B G s t ka z u → (∃ d, d ≤ k ∧ s 1 0 = nI d) → Pt q mc ms t → J mc ms u
theorem f750 {q k : Nat} {J : Nat → Nat → Nat → Nat → Nat → Nat → Nat → Int32 → Nat → Nat → Mem → Prop} {v8 v9 : Int32} (hJ : HJ B G q k (J (B 0 0) (B 4 0) (B 4 1) (B 4 2) (B 4 3) (B 4 4) (B 4 5) (v8 + 1))) (hS : Syn B G s t ka z u) (hd : ∃ d, d ≤ k ∧ s 1 0 = nI d) (hP : Pt q mc ms t) : w_L_law_750 G J (B 0 0) (B 4 0) (B 4 1) (B 4 2) (B 4 3) (B 4 4) (B 4 5) v8 v9 1 mc ms u :=
  ⟨fun y => absurd y (by decide), fun _ => ⟨0, 0, Nat.zero_le _, Nat.zero_le _, l_isSo hS ⟨fun y => absurd y (by decide), fun _ => hJ _ _ _ _ _ _ _ hS hd hP⟩⟩⟩
theorem l_streets (hS : Syn B G s t ka z u) {v1 v2 : Int32} (hK : ∀ s' z' u', Syn B G s' t ka z' u' → s' 1 0 = s 1 0 → K 1 u') : w_L_streets G (B 0 0) v1 v2 (B 4 1) mc ms u K := by
  obtain ⟨h, hR, hI, hQ⟩ := hS
  refine l_low (N := 8) (by decide) (by decide) rfl ?_
  have hi := lw_lt v2 (N := 8) (by decide)
  generalize lw v2 8 = i at hi ⊢
  obtain ⟨p, hp, e3⟩ := hI.2.1 i hi
  obtain ⟨q0, q1, q2, q3, q4, q5⟩ := hR.2.1 i hi
  -- pay
  have pay35 : ∀ (N : Nat) (x : Int32), 0 < N → N ≤ 10000 → x = nI N → w_L_streets_35 G (B 0 0) v1 v2 (B 4 1) K (nI i) x (v2 >>> ((3 : Int32) &&& 31)) 1 mc ms u := by
    intro N x hN hN2 hx
    refine l_low hN (by omega) hx ?_
    have hr := lw_lt (v2 >>> ((3 : Int32) &&& 31)) hN
    generalize lw (v2 >>> ((3 : Int32) &&& 31)) N = r at hr ⊢
    have ec : (1 : Int32) + nI r = nI (1 + r) := nI_add 1 r
    obtain ⟨a1, a2, a3⟩ := rd h 1 (6 * i) (by omega) (j6 i) (by show 6 * i < 48; omega)
    rw [q0, e3] at a3
    refine ⟨a1, a2, ?_⟩
    rw [ec, a3, nI_add]
    have hlt : ((100000 : Int32) < nI (p + (1 + r))) ↔ 100000 < p + (1 + r) := nI_ltI (a := 100000) (by omega) (by omega)
    refine ⟨fun y => ⟨a1, a2, fun _ => ?_, fun y2 => absurd rfl y2⟩, fun y => ⟨a1, a2, fun y2 => absurd y2 (by decide), fun _ => ?_⟩⟩
    · rw [a3]
      refine wr h 1 (6 * i) (by omega) (j6 i) (by show 6 * i < 48; omega) (fun u1 h1 => ⟨fun _ => ⟨.inr rfl, ?_⟩, fun y => absurd rfl y⟩)
      rw [Int32.add_zero, up2_id (q0.trans e3)] at h1
      exact hK s z u1 ⟨h1, hR, hI, hQ⟩ rfl
    · rw [a3]
      have hle : p + (1 + r) ≤ 100000 := by
        rcases Nat.lt_or_ge 100000 (p + (1 + r)) with y3 | y3
        · exact absurd (hlt.mpr y3) y
        · exact y3
      refine wr h 1 (6 * i) (by omega) (j6 i) (by show 6 * i < 48; omega) (fun u1 h1 => ⟨fun y => absurd y (by decide), fun _ => ⟨0, 0, Nat.zero_le _, Nat.zero_le _, (fd h1).1, ?_⟩⟩)
      rw [nI_add] at h1
      refine c_pay h1 hi e3 (by omega) (by omega) hle (fun u2 h2 => ?_)
      obtain ⟨b1, b2, b3⟩ := rd h2 1 (6 * i) (by omega) (j6 i) (by show 6 * i < 48; omega)
      rw [up2_at, if_pos ⟨rfl, rfl⟩] at b3
      refine ⟨b1, b2, ?_⟩
      rw [b3]
      exact ⟨fun _ => ⟨.inr rfl, hK _ _ u2 ⟨h2, R_3 hR hi _, I_3 hI i _ ⟨_, hle, rfl⟩, Qi_cong hQ (fun k hk => by funext j; rw [up2_at, if_neg (by omega)])⟩ rfl⟩, fun y => absurd rfl y⟩
  -- setStreet
  have set157 : ∀ (N : Nat) (x : Int32), 0 < N → N ≤ 51 → x = nI N → w_L_streets_157 G (B 0 0) v1 v2 (B 4 1) K (nI i) (s 4 i) x (v2 >>> ((3 : Int32) &&& 31)) ((6 : Int32) * nI i + 1) (B 4 1) mc ms u := by
    intro N x hN hN2 hx
    refine l_low hN (by omega) hx ?_
    have hr := lw_lt (v2 >>> ((3 : Int32) &&& 31)) hN
    generalize lw (v2 >>> ((3 : Int32) &&& 31)) N = r at hr ⊢
    refine wr h 1 (6 * i + 1) (by omega) (j61 i) (by show 6 * i + 1 < 48; omega) (fun u1 h1 => l_low (N := 2) (by decide) (by decide) rfl ?_)
    have hg := lw_lt (v2 >>> ((8 : Int32) &&& 31)) (N := 2) (by decide)
    generalize lw (v2 >>> ((8 : Int32) &&& 31)) 2 = g at hg ⊢
    have hg01 : nI g = 0 ∨ nI g = 1 := by
      rcases (show g = 0 ∨ g = 1 by omega) with y | y <;> subst y
      · exact .inl rfl
      · exact .inr rfl
    refine wr h1 1 (6 * i + 2) (by omega) (j62 i) (by show 6 * i + 2 < 48; omega) (fun u2 h2 => ?_)
    obtain ⟨a1, a2, a3⟩ := rd h2 1 (6 * i + 1) (by omega) (j61 i) (by show 6 * i + 1 < 48; omega)
    obtain ⟨b1, b2, b3⟩ := rd h2 1 (6 * i + 2) (by omega) (j62 i) (by show 6 * i + 2 < 48; omega)
    rw [up2_at, if_neg (by omega), up2_at, if_pos ⟨rfl, rfl⟩] at a3
    rw [up2_at, if_pos ⟨rfl, rfl⟩] at b3
    have fin : ∀ y : Int32, y = nI g → w_L_streets_208 G (B 0 0) v1 v2 (B 4 1) K (s 4 i) y (nI r) (nI i) (B 0 0) mc ms u2 := by
      intro y hy
      subst hy
      refine ⟨0, 0, Nat.zero_le _, Nat.zero_le _, (fd h2).1, c_set h2 hi (by omega) hg01 (fun u3 h3 => ⟨fun _ => ⟨.inr rfl, ?_⟩, fun y => absurd rfl y⟩)⟩
      exact hK _ _ u3 ⟨h3, R_5 (R_4 hR hi _) hi _, I_5 (I_4 hI i _ ⟨r, by omega, rfl⟩) i _, Qi_cam (Qi_cong hQ (fun k hk => by funext j; rw [up2_at, if_neg (by omega)])) i hg01⟩ rfl
    refine ⟨a1, a2, b1, b2, ?_⟩
    rw [b3, a3]
    refine ⟨fun y => fin 1 y.symm, fun y => fin 0 ?_⟩
    exact (hg01.resolve_right y).symm
  -- vote
  have vote263 : ∀ (j : Nat), j < 3 → ∀ (N : Nat) (x : Int32), 0 < N → N ≤ 30 → x = nI N → w_L_streets_263 G (B 0 0) v1 v2 (B 4 1) K (nI i) (nI j) x (v2 >>> ((5 : Int32) &&& 31)) 1 (((6 : Int32) * nI i + 3) + nI j) (B 4 1) mc ms u := by
    intro j hj N x hN hN2 hx
    refine l_low hN (by omega) hx ?_
    have hr := lw_lt (v2 >>> ((5 : Int32) &&& 31)) hN
    generalize lw (v2 >>> ((5 : Int32) &&& 31)) N = r at hr ⊢
    have ec : (1 : Int32) + nI r = nI (1 + r) := nI_add 1 r
    have ix : ((6 : Int32) * nI i + 3) + nI j = nI (6 * i + 3 + j) := by rw [j63, nI_add]
    rw [ec]
    refine wr h 1 (6 * i + 3 + j) (by omega) ix (by show 6 * i + 3 + j < 48; omega) (fun u1 h1 => ?_)
    obtain ⟨a1, a2, a3⟩ := rd h1 1 (6 * i + 3 + j) (by omega) ix (by show 6 * i + 3 + j < 48; omega)
    rw [up2_at, if_pos ⟨rfl, rfl⟩] at a3
    refine ⟨a1, a2, 0, 0, Nat.zero_le _, Nat.zero_le _, (fd h1).1, ?_⟩
    rw [a3]
    have hI' := I_6 hI (3 * i + j) (nI (1 + r)) ⟨1 + r, by omega, by omega, rfl⟩
    obtain ⟨a, ha1, ha2, ea⟩ := hI'.2.2.2.1 (3 * i) (by omega)
    obtain ⟨b, hb1, hb2, eb⟩ := hI'.2.2.2.1 (3 * i + 1) (by omega)
    obtain ⟨c, hc1, hc2, ec⟩ := hI'.2.2.2.1 (3 * i + 2) (by omega)
    have hR' := R_6 hR hi hj (nI (1 + r))
    obtain ⟨_, _, _, r3, r4, r5⟩ := hR'.2.1 i hi
    refine c_vote h1 hi hj (by omega) ea eb ec ⟨ha1, ha2⟩ ⟨hb1, hb2⟩ ⟨hc1, hc2⟩ ?_
    have h2 := S_vote h1 hi hj (nI (1 + r))
    refine l_days h2 hi (r3.trans ea) (r4.trans eb) (r5.trans ec) ⟨ha1, ha2⟩ ⟨hb1, hb2⟩ ⟨hc1, hc2⟩ ⟨fun _ => ⟨.inr rfl, ?_⟩, fun y => absurd rfl y⟩
    exact hK _ _ _ ⟨h2, hR', hI', Qi_cong hQ (fun k hk => by funext j; rw [up2_at, if_neg (by omega)])⟩ rfl
  refine ⟨fun _ => l_low (N := 3) (by decide) (by decide) rfl ⟨fun _ => pay35 10000 _ (by decide) (by decide) rfl, fun _ => pay35 9 _ (by decide) (by decide) rfl⟩, fun _ => ⟨fun _ => ?_, fun _ => ?_⟩⟩
  · obtain ⟨b1, b2, b3⟩ := rd h 1 (6 * i + 1) (by omega) (j61 i) (by show 6 * i + 1 < 48; omega)
    rw [q1] at b3
    refine ⟨b1, b2, ?_⟩
    rw [b3]
    exact l_low (N := 3) (by decide) (by decide) rfl ⟨fun _ => set157 51 _ (by decide) (by decide) rfl, fun _ => set157 5 _ (by decide) (by decide) rfl⟩
  · refine l_low (N := 3) (by decide) (by decide) rfl (l_low (N := 2) (by decide) (by decide) rfl ?_)
    have hj := lw_lt (v2 >>> ((3 : Int32) &&& 31)) (N := 3) (by decide)
    exact ⟨fun _ => vote263 _ hj 30 _ (by decide) (by decide) rfl, fun _ => vote263 _ hj 4 _ (by decide) (by decide) rfl⟩
/-- the law's night -/
theorem ln46 {n m : Nat} {w : Nat → Nat → Int32} (h : S2 B G s t ka z u) (hm : z 0 3 = nI m) (hm4 : m ≤ 40) (h5 : ∀ j, j < m → z 5 j = w 21 j) {dd : Int32} (hd : z 0 0 = dd) : ∀ g i c, i + g = m → K (nI (c + ((List.range' i g).filter (fun j => decide (w 21 j = dd))).length)) u → w_L_night_46 G (B 4 3) (B 4 5) (B 4 0) K (g + 1) (nI c) (nI i) u := by
  obtain ⟨p1, p2, p3⟩ := rd h 0 3 (by omega) (x := 3) rfl (by decide)
  obtain ⟨q1, q2, q3⟩ := rd h 0 0 (by omega) (x := 0) rfl (by decide)
  rw [hm] at p3
  rw [hd] at q3
  intro g
  induction g with
  | zero =>
    intro i c hi hK
    have e : nI m ≤ nI i := by rw [nI_leI (by omega) (by omega)]; omega
    rw [wS_L_night_46]
    refine ⟨p1, p2, ?_⟩
    rw [p3]
    exact ⟨fun _ => by simpa using hK, fun y => absurd e y⟩
  | succ g ih =>
    intro i c hi hK
    have hi2 : i < m := by omega
    obtain ⟨a1, a2, a3⟩ := rd h 5 i (by omega) (x := nI i) rfl (by show i < 40; omega)
    rw [h5 i hi2] at a3
    rw [wS_L_night_46]
    refine ⟨p1, p2, ?_⟩
    rw [p3]
    refine ⟨fun y => absurd y (nle hi2 (by omega)), fun _ => ⟨a1, a2, q1, q2, ?_⟩⟩
    rw [a3, q3]
    rw [List.range'_succ, List.filter_cons] at hK
    refine ⟨fun y => ?_, fun y => ?_⟩
    · rw [if_pos (by simpa using y)] at hK
      show w_L_night_46 G (B 4 3) (B 4 5) (B 4 0) K (g + 1) (nI c + 1) (nI i + 1) u
      rw [nI_1, nI_1]
      exact ih (i + 1) (c + 1) (by omega) (by rw [List.length_cons] at hK; rw [Nat.add_right_comm, Nat.add_assoc]; exact hK)
    · rw [if_neg (by simpa using y)] at hK
      show w_L_night_46 G (B 4 3) (B 4 5) (B 4 0) K (g + 1) (nI c + 0) (nI i + 1) u
      rw [Int32.add_zero, nI_1]
      exact ih (i + 1) c (by omega) hK
theorem l_nightY {n m : Nat} {w : Nat → Nat → Int32} (h : S2 B G s t ka z u) (hR : Rel w n m z) (hn8 : n ≤ 8) (hm4 : m ≤ 40) (ho : ∀ k, k < n → w 13 k = 3) (hK : ∀ z' u', S2 B G s t ka z' u' → Rel (up2 (up2 w 1 0 (w 1 0 + 1)) 2 0 0) n m z' → K (nI ((List.range m).filter (fun j => decide (w 21 j = w 1 0 + 1))).length) u') : w_L_night G (B 4 3) (B 4 5) (B 4 0) u K := by
  obtain ⟨o1, o2, o3⟩ := rd h 0 2 (by omega) (x := 2) rfl (by decide)
  rw [hR.1.2.2.1] at o3
  have loop : ∀ g i, i + g = n → w_L_night_2 G (B 4 3) (B 4 5) (B 4 0) K (g + 1) (nI i) u := by
    intro g
    induction g with
    | zero =>
      intro i hi
      have e : nI n ≤ nI i := by rw [nI_leI (by omega) (by omega)]; omega
      obtain ⟨p1, p2, p3⟩ := rd h 0 0 (by omega) (x := 0) rfl (by decide)
      rw [hR.1.1] at p3
      rw [wS_L_night_2]
      refine ⟨o1, o2, ?_⟩
      rw [o3]
      refine ⟨fun _ => ⟨p1, p2, ?_⟩, fun y => absurd e y⟩
      rw [p3]
      refine wr h 0 0 (by omega) rfl (by decide) (fun u1 h1 => wr h1 0 1 (by omega) rfl (by decide) (fun u2 h2 => ⟨m + 1, ?_⟩))
      have hR2 := R_2 (R_1 hR (w 1 0 + 1)) 0
      refine ln46 (n := n) (w := w) h2 hR2.1.2.2.2 hm4 (fun j hj => (hR2.2.2.2.2.2 j hj).2) hR2.1.1 m 0 0 (by omega) ?_
      rw [Nat.zero_add, ← List.range_eq_range']
      exact hK _ u2 h2 hR2
    | succ g ih =>
      intro i hi
      have hi2 : i < n := by omega
      obtain ⟨c1, c2, c3⟩ := rd h 3 (6 * i + 2) (by omega) (j62 i) (by show 6 * i + 2 < 48; omega)
      rw [(hR.2.2.2.1 i hi2).2.2.1, ho i hi2] at c3
      rw [wS_L_night_2]
      refine ⟨o1, o2, ?_⟩
      rw [o3]
      refine ⟨fun y => absurd y (nle hi2 (by omega)), fun _ => ⟨c1, c2, ?_⟩⟩
      rw [c3]
      refine ⟨fun _ => ?_, fun y => absurd (by decide) y⟩
      rw [nI_1]
      exact ih (i + 1) (by omega)
  exact ⟨n + 1, loop n 0 (by omega)⟩
theorem l_nightN {n m : Nat} {w : Nat → Nat → Int32} (h : S2 B G s t ka z u) (hR : Rel w n m z) (hn8 : n ≤ 8) (ho : ∃ k, k < n ∧ ¬ (3 : Int32) ≤ w 13 k) (hK : K (-3) u) : w_L_night G (B 4 3) (B 4 5) (B 4 0) u K := by
  obtain ⟨o1, o2, o3⟩ := rd h 0 2 (by omega) (x := 2) rfl (by decide)
  rw [hR.1.2.2.1] at o3
  have loop : ∀ g i, i + g = n → (∃ k, i ≤ k ∧ k < n ∧ ¬ (3 : Int32) ≤ w 13 k) → w_L_night_2 G (B 4 3) (B 4 5) (B 4 0) K (g + 1) (nI i) u := by
    intro g
    induction g with
    | zero => intro i hi hx; obtain ⟨k, k1, k2, _⟩ := hx; omega
    | succ g ih =>
      intro i hi hx
      have hi2 : i < n := by omega
      obtain ⟨c1, c2, c3⟩ := rd h 3 (6 * i + 2) (by omega) (j62 i) (by show 6 * i + 2 < 48; omega)
      rw [(hR.2.2.2.1 i hi2).2.2.1] at c3
      rw [wS_L_night_2]
      refine ⟨o1, o2, ?_⟩
      rw [o3]
      refine ⟨fun y => absurd y (nle hi2 (by omega)), fun _ => ⟨c1, c2, ?_⟩⟩
      rw [c3]
      refine ⟨fun y => ?_, fun _ => hK⟩
      rw [nI_1]
      refine ih (i + 1) (by omega) ?_
      obtain ⟨k, k1, k2, k3⟩ := hx
      rcases Nat.eq_or_lt_of_le k1 with q | q
      · subst q; exact absurd y k3
      · exact ⟨k, q, k2, k3⟩
  obtain ⟨k, k1, k2⟩ := ho
  exact ⟨n + 1, loop n 0 (by omega) ⟨k, Nat.zero_le _, k1, k2⟩⟩
end S2A
