section S2T
variable {B : Nat → Nat → Nat} {G : Ctx} {s z : Nat → Nat → Int32} {t : Nat → Nat → Nat} {ka : List Nat} {u : Mem}
variable {mc ms : Nat} {J : Nat → Nat → Nat → Nat → Nat → Nat → Nat → Int32 → Nat → Nat → Mem → Prop} {v8 v9 : Int32}
theorem dle {k : Nat} {x : Int32} (h : ∃ d, d ≤ k ∧ x = nI d) : ∃ d, d ≤ k + 1 ∧ x = nI d := by
  obtain ⟨d, h1, h2⟩ := h
  exact ⟨d, by omega, h2⟩
theorem p375 (hS : Syn B G s t ka z u) {k q : Nat} (hd : ∃ d, d ≤ k ∧ s 1 0 = nI d) (hk : k ≤ 90) (hP : Pt (q + 1) mc ms t) (hJ : HJ B G q (k + 1) (J (B 0 0) (B 4 0) (B 4 1) (B 4 2) (B 4 3) (B 4 4) (B 4 5) (v8 + 1))) {i j : Nat} (hi : i < 4) (hj : j < 8) {due : Int32} (hdue : (s 9 i = 0 ∧ due = s 7 i) ∨ (¬ s 9 i = 0 ∧ due = -3)) : w_L_law_375 G J (B 0 0) (B 4 0) (B 4 1) (B 4 2) (B 4 3) (B 4 4) (B 4 5) v8 v9 (nI i) (nI j) due mc ms u := by
  obtain ⟨h, hR, hI, hQ⟩ := hS
  obtain ⟨b1, b2, b3, b4⟩ := Pt_1 hP
  obtain ⟨a, ha, z7⟩ := hI.2.2.2.2.1 i hi
  rcases hdue with ⟨z9, rfl⟩ | ⟨z9, rfl⟩
  · refine ⟨fun _ => ?_, fun y => absurd (by rw [z7]; exact nI_pos' (by omega)) y⟩
    refine wr h 2 (3 * i) (by omega) (j3 i) (by show 3 * i < 12; omega) (fun u1 h1 => ⟨0, 0, Nat.zero_le _, Nat.zero_le _, ⟨fun _ => ⟨0, 0, Nat.zero_le _, Nat.zero_le _, (fd h1).1, ?_⟩, fun y => absurd rfl y⟩⟩)
    refine c_place h1 hi hj z9 (fun u2 h2 => ⟨fun _ => ?_, fun y => absurd rfl y⟩)
    exact f750 hJ ⟨h2, R_7 hR hi _, I_7 hI i _ ⟨j, hj, rfl⟩, Qi_place hQ hi z9 _⟩ (dle hd) b4
  · refine ⟨fun y => absurd y (by decide), fun _ => ?_⟩
    obtain ⟨a1, a2, a3⟩ := rd h 2 (3 * i) (by omega) (j3 i) (by show 3 * i < 12; omega)
    refine ⟨a1, a2, ?_⟩
    rw [a3]
    refine wr h 2 (3 * i) (by omega) (j3 i) (by show 3 * i < 12; omega) (fun u1 h1 => ?_)
    rw [up2_id rfl] at h1
    refine ⟨1, 6, b1, b2, ⟨fun _ => ⟨1, 6, Nat.le_refl _, Nat.le_refl _, (fd h1).1, ?_⟩, fun y => absurd rfl y⟩⟩
    refine c_placeX h1 hi hj z9 (Nat.le_refl _) (Nat.le_refl _) ⟨rfl, fun _ => ?_, fun y => absurd rfl y⟩
    exact f750 hJ ⟨h1, hR, hI, hQ⟩ (dle hd) b3
theorem pnight (hS : Syn B G s t ka z u) {k q : Nat} (hd : ∃ d, d ≤ k ∧ s 1 0 = nI d) (hk : k ≤ 90) (hP : Pt (q + 1) mc ms t) (hJ : HJ B G q (k + 1) (J (B 0 0) (B 4 0) (B 4 1) (B 4 2) (B 4 3) (B 4 4) (B 4 5) (v8 + 1))) : (∃ c267 b268 : Nat, c267 ≤ mc ∧ b268 ≤ ms ∧ (w_L_calls G (B 0 0) (1 : Int32) (0 : Int32) (0 : Int32) c267 b268 u (fun r266 u265 => (w_L_night G (B 4 3) (B 4 5) (B 4 0) u265 (fun r270 u269 => ((r266 = r270 → (w_L_law_455 G J (B 0 0) (B 4 0) (B 4 1) (B 4 2) (B 4 3) (B 4 4) (B 4 5) v8 v9 (1 : Int32) (mc - c267) (ms - b268) u269)) ∧ (¬ r266 = r270 → (w_L_law_455 G J (B 0 0) (B 4 0) (B 4 1) (B 4 2) (B 4 3) (B 4 4) (B 4 5) v8 v9 (0 : Int32) (mc - c267) (ms - b268) u269)))))))) := by
  obtain ⟨h, hR, hI, hQ⟩ := hS
  obtain ⟨b1, b2, b3, b4⟩ := Pt_1 hP
  have hn8 : t 3 0 ≤ 8 := hQ.1.1
  have hm40 := Qb_40 hQ.2.2
  obtain ⟨d, hd1, ed⟩ := hd
  have hlt : s 1 0 < 1000 := by rw [ed]; exact nI_lt (a := d) (b := 1000) (by omega) (by omega)
  by_cases ho : ∀ w, w < t 3 0 → s 13 w = 3
  · refine ⟨0, 0, Nat.zero_le _, Nat.zero_le _, ⟨fun y => absurd y (by decide), fun _ => ⟨fun _ => ⟨0, 0, Nat.zero_le _, Nat.zero_le _, (fd h).1, ?_⟩, fun y => absurd rfl y⟩⟩⟩
    refine c_nightY h hI hlt ho (fun u1 h1 => l_nightY h1 hR hn8 hm40 ho (fun z' u2 h2 hR2 => ⟨fun _ => ?_, fun y => absurd ?_ y⟩))
    · refine f750 hJ ⟨h2, hR2, I_night hI hlt, Qi_cong hQ (fun k hk => by funext j; rw [up2_at, if_neg (by omega), up2_at, if_neg (by omega)])⟩ ⟨d + 1, by omega, ?_⟩ b4
      show s 1 0 + 1 = nI (d + 1)
      rw [ed, nI_1]
    · rw [(nt2 hI hlt).1]
  · refine ⟨1, 6, b1, b2, ⟨fun y => absurd y (by decide), fun _ => ⟨fun _ => ⟨1, 6, Nat.le_refl _, Nat.le_refl _, (fd h).1, ?_⟩, fun y => absurd rfl y⟩⟩⟩
    refine c_nightN h hI (fun y => ho y.2) ⟨rfl, l_nightN h hR hn8 ?_ ⟨fun _ => ?_, fun y => absurd rfl y⟩⟩
    · refine Classical.byContradiction (fun hno => ho (fun w hw => ?_))
      refine Classical.byContradiction (fun h3 => hno ⟨w, hw, ?_⟩)
      rcases hI.2.2.2.2.2.2.2.1 w hw with ⟨_, y⟩ | ⟨_, _, _, y | y | y⟩
      · rw [y]; decide
      · rw [y]; decide
      · rw [y]; decide
      · exact absurd y h3
    · exact f750 hJ ⟨h, hR, hI, hQ⟩ (dle ⟨d, hd1, ed⟩) b3
/-- complaints -/
theorem lt0 : ∀ r, r < 101 → (0 ≤ (nI r + (15 : Int32) * nI 0) - 10 → ((nI r + (15 : Int32) * nI 0) - 10 ≤ 100 → (nI r + (15 : Int32) * nI 0) - 10 = nI (r - 10)) ∧ (¬ (nI r + (15 : Int32) * nI 0) - 10 ≤ 100 → 100 = nI (r - 10))) ∧ (¬ 0 ≤ (nI r + (15 : Int32) * nI 0) - 10 → 0 = nI (r - 10)) := by decide +kernel
theorem lt1 : ∀ r, r < 101 → (0 ≤ (nI r + (15 : Int32) * nI 1) - 10 → ((nI r + (15 : Int32) * nI 1) - 10 ≤ 100 → (nI r + (15 : Int32) * nI 1) - 10 = nI (min (r + 5) 100)) ∧ (¬ (nI r + (15 : Int32) * nI 1) - 10 ≤ 100 → 100 = nI (min (r + 5) 100))) ∧ (¬ 0 ≤ (nI r + (15 : Int32) * nI 1) - 10 → 0 = nI (min (r + 5) 100)) := by decide +kernel
theorem p528Y (hS : Syn B G s t ka z u) {k q : Nat} (hd : ∃ d, d ≤ k ∧ s 1 0 = nI d) (hk : k ≤ 90) (hP : Pt (q + 1) mc ms t) (hJ : HJ B G q (k + 1) (J (B 0 0) (B 4 0) (B 4 1) (B 4 2) (B 4 3) (B 4 4) (B 4 5) (v8 + 1))) {w g : Nat} (hw : w < t 3 0) (hg : g < 2) (z3 : s 13 w = 3) (z16 : s 16 w = 0) : w_L_law_528 G J (B 0 0) (B 4 0) (B 4 1) (B 4 2) (B 4 3) (B 4 4) (B 4 5) v8 v9 (nI w) (nI g) 1 mc ms u := by
  obtain ⟨h, hR, hI, hQ⟩ := hS
  obtain ⟨b1, b2, b3, b4⟩ := Pt_1 hP
  have hn8 : t 3 0 ≤ 8 := hQ.1.1
  rcases hI.2.2.2.2.2.2.2.1 w hw with ⟨_, y⟩ | ⟨e, he, z14, _⟩
  · rw [y] at z3; exact absurd z3 (by decide)
  obtain ⟨r, hr, er⟩ := hI.2.2.2.2.2.1 e he
  obtain ⟨_, _, _, r3, _, r5⟩ := hR.2.2.2.1 w hw
  obtain ⟨g0, g1, g2⟩ := hR.2.2.1 e he
  obtain ⟨a1, a2, a3⟩ := rd h 3 (6 * w + 3) (by omega) (j63 w) (by show 6 * w + 3 < 48; omega)
  rw [r3, z14] at a3
  obtain ⟨c1, c2, c3⟩ := rd h 2 (3 * e + 1) (by omega) (x := nI (3 * e + 1)) rfl (by show 3 * e + 1 < 12; omega)
  rw [g1, er] at c3
  -- the rank then
  have fin : ∀ (r' : Nat), r' ≤ 100 → ((g = 0 ∧ (if (0 : Int32) < s 8 e - 10 then s 8 e - 10 else 0) = nI r') ∨ (g = 1 ∧ (if s 8 e + 5 < (100 : Int32) then s 8 e + 5 else 100) = nI r')) → ∀ x, x = nI r' → w_L_law_611 G J (B 0 0) (B 4 0) (B 4 1) (B 4 2) (B 4 3) (B 4 4) (B 4 5) v8 v9 (nI w) (nI g) 1 (nI (3 * e + 1)) x (nI (3 * e + 1)) (B 4 2) mc ms u := by
    intro r' hr' hv x hx
    subst hx
    refine wr h 2 (3 * e + 1) (by omega) rfl (by show 3 * e + 1 < 12; omega) (fun u1 h1 => ⟨fun y => absurd y (by decide), fun _ => ?_⟩)
    refine wr h1 3 (6 * w + 5) (by omega) (j65 w) (by show 6 * w + 5 < 48; omega) (fun u2 h2 => ⟨0, 0, Nat.zero_le _, Nat.zero_le _, ⟨fun y => absurd y (by decide), fun _ => ⟨fun y => absurd y (by decide), fun _ => ?_⟩⟩⟩)
    have hR2 := R_16 (R_8 hR he (nI r')) hw 1
    have eS : up2 (up2 s 8 e (nI r')) 16 w 1 = up2 (up2 s 16 w 1) 8 e (nI r') := up2_comm s (nI r') 1 (.inl (by decide))
    rw [eS] at hR2
    have c37 : ∀ v2 : Int32, ((v2 = 0 ∧ (if (0 : Int32) < s 8 e - 10 then s 8 e - 10 else 0) = nI r') ∨ (¬ v2 = 0 ∧ (if s 8 e + 5 < (100 : Int32) then s 8 e + 5 else 100) = nI r')) → w_L_calls_37 G (B 0 0) 2 (nI w) (nI g) (fun r240 u239 => (((1 : Int32) = 0 → w_L_law_665 G J (B 0 0) (B 4 0) (B 4 1) (B 4 2) (B 4 3) (B 4 4) (B 4 5) v8 v9 (-3) r240 (mc - 0) (ms - 0) u239) ∧ (¬ (1 : Int32) = 0 → (OB u239 (B 4 2) 8 ∧ vp_in (nI (3 * e + 1)) (mN u239 (B 4 2)) ∧ w_L_law_665 G J (B 0 0) (B 4 0) (B 4 1) (B 4 2) (B 4 3) (B 4 4) (B 4 5) v8 v9 (mA u239 (B 4 2) (nI (3 * e + 1)).toNatClampNeg) r240 (mc - 0) (ms - 0) u239)))) v2 (nI w) (B 0 0) 0 0 u2 := by
      intro v2 hv2
      refine ⟨0, 0, Nat.zero_le _, Nat.zero_le _, (fd h2).1, ?_⟩
      have h3 := S_erank (S_wtold h2 hw 1) he (nI r')
      refine c_compl h2 hI.1.1 hw z3 he z14 z16 hv2 ⟨fun y => absurd y (by decide), fun _ => ?_⟩
      obtain ⟨d1, d2, d3⟩ := rd h3 2 (3 * e + 1) (by omega) (x := nI (3 * e + 1)) rfl (by show 3 * e + 1 < 12; omega)
      rw [(hR2.2.2.1 e he).2.1, up2_at, if_pos ⟨rfl, rfl⟩] at d3
      refine ⟨d1, d2, ?_⟩
      rw [d3]
      refine ⟨fun _ => ?_, fun y => absurd rfl y⟩
      exact f750 hJ ⟨h3, hR2, I_8 (I_16 hI w 1 hw) e _ ⟨r', hr', rfl⟩, Qi_cong hQ (fun k hk => by funext j; rw [up2_at, if_neg (by omega), up2_at, if_neg (by omega)])⟩ (dle hd) b4
    rcases hv with ⟨hg0, hv⟩ | ⟨hg1, hv⟩
    · subst hg0
      exact ⟨fun y => absurd y (by decide), fun _ => c37 0 (.inl ⟨rfl, hv⟩)⟩
    · subst hg1
      exact ⟨fun _ => c37 1 (.inr ⟨by decide, hv⟩), fun y => absurd rfl y⟩
  refine ⟨fun y => absurd y (by decide), fun _ => ⟨a1, a2, ?_⟩⟩
  rw [a3, j31 e]
  refine ⟨c1, c2, fun y => absurd y (by decide), fun _ => ?_⟩
  rw [c3]
  rcases (show g = 0 ∨ g = 1 by omega) with y | y
  · subst y
    have hf := fin (r - 10) (by omega) (.inl ⟨rfl, by rw [er]; exact (cp2 r (by omega)).1⟩)
    obtain ⟨q1, q2⟩ := lt0 r (by omega)
    exact ⟨fun y => ⟨fun y2 => hf _ ((q1 y).1 y2), fun y2 => hf _ ((q1 y).2 y2)⟩, fun y => hf _ (q2 y)⟩
  · subst y
    have hf := fin (min (r + 5) 100) (by omega) (.inr ⟨rfl, by rw [er]; exact (cp1 r (by omega)).1⟩)
    obtain ⟨q1, q2⟩ := lt1 r (by omega)
    exact ⟨fun y => ⟨fun y2 => hf _ ((q1 y).1 y2), fun y2 => hf _ ((q1 y).2 y2)⟩, fun y => hf _ (q2 y)⟩
theorem p528N (hS : Syn B G s t ka z u) {k q : Nat} (hd : ∃ d, d ≤ k ∧ s 1 0 = nI d) (hk : k ≤ 90) (hP : Pt (q + 1) mc ms t) (hJ : HJ B G q (k + 1) (J (B 0 0) (B 4 0) (B 4 1) (B 4 2) (B 4 3) (B 4 4) (B 4 5) (v8 + 1))) {w g : Nat} (hw : w < t 3 0) (hg : g < 2) (hz : ¬ s 13 w = 3 ∨ ¬ s 16 w = 0) : w_L_law_528 G J (B 0 0) (B 4 0) (B 4 1) (B 4 2) (B 4 3) (B 4 4) (B 4 5) v8 v9 (nI w) (nI g) 0 mc ms u := by
  obtain ⟨h, hR, hI, hQ⟩ := hS
  obtain ⟨b1, b2, b3, b4⟩ := Pt_1 hP
  have hn8 : t 3 0 ≤ 8 := hQ.1.1
  have hz2 : ¬ s 13 w = 3 ∨ ∃ e, e < 4 ∧ s 14 w = nI e ∧ ¬ s 16 w = 0 := by
    rcases hI.2.2.2.2.2.2.2.1 w hw with ⟨_, y⟩ | ⟨e, he, z14, _⟩
    · exact .inl (by rw [y]; decide)
    · rcases hz with y | y
      · exact .inl y
      · exact .inr ⟨e, he, z14, y⟩
  obtain ⟨a1, a2, a3⟩ := rd h 2 1 (by omega) (x := 1) rfl (by decide)
  refine ⟨fun _ => ⟨a1, a2, fun _ => ⟨a1, a2, ?_⟩, fun y => absurd rfl y⟩, fun y => absurd rfl y⟩
  rw [a3]
  refine wr h 2 1 (by omega) rfl (by decide) (fun u1 h1 => ⟨fun _ => ?_, fun y => absurd rfl y⟩)
  rw [up2_id rfl] at h1
  obtain ⟨c1, c2, c3⟩ := rd h1 3 (6 * w + 5) (by omega) (j65 w) (by show 6 * w + 5 < 48; omega)
  refine ⟨c1, c2, ?_⟩
  rw [c3]
  refine wr h1 3 (6 * w + 5) (by omega) (j65 w) (by show 6 * w + 5 < 48; omega) (fun u2 h2 => ⟨1, 6, b1, b2, ⟨fun y => absurd y (by decide), fun _ => ⟨fun y => absurd y (by decide), fun _ => ?_⟩⟩⟩)
  rw [up2_id rfl] at h2
  have c37 : ∀ v2 : Int32, w_L_calls_37 G (B 0 0) 2 (nI w) (nI g) (fun r240 u239 => (((0 : Int32) = 0 → w_L_law_665 G J (B 0 0) (B 4 0) (B 4 1) (B 4 2) (B 4 3) (B 4 4) (B 4 5) v8 v9 (-3) r240 (mc - 1) (ms - 6) u239) ∧ (¬ (0 : Int32) = 0 → (OB u239 (B 4 2) 8 ∧ vp_in (1 : Int32) (mN u239 (B 4 2)) ∧ w_L_law_665 G J (B 0 0) (B 4 0) (B 4 1) (B 4 2) (B 4 3) (B 4 4) (B 4 5) v8 v9 (mA u239 (B 4 2) (1 : Int32).toNatClampNeg) r240 (mc - 1) (ms - 6) u239)))) v2 (nI w) (B 0 0) 1 6 u2 := fun v2 =>
    ⟨1, 6, Nat.le_refl _, Nat.le_refl _, (fd h2).1, c_complX h2 hI.1.1 hw hz2 ⟨rfl, fun _ => ⟨fun _ => f750 hJ ⟨h2, hR, hI, hQ⟩ (dle hd) b3, fun y => absurd rfl y⟩, fun y => absurd rfl y⟩⟩
  exact ⟨fun _ => c37 1, fun _ => c37 0⟩
/-- minutes go by -/
theorem p678 (hS : Syn B G s t ka z u) {k q : Nat} (hd : ∃ d, d ≤ k ∧ s 1 0 = nI d) (hk : k ≤ 90) (hP : Pt (q + 1) mc ms t) (hJ : HJ B G q (k + 1) (J (B 0 0) (B 4 0) (B 4 1) (B 4 2) (B 4 3) (B 4 4) (B 4 5) (v8 + 1))) : w_L_law_678 G J (B 0 0) (B 4 0) (B 4 1) (B 4 2) (B 4 3) (B 4 4) (B 4 5) v8 v9 mc ms u := by
  obtain ⟨h, hR, hI, hQ⟩ := hS
  obtain ⟨b1, b2, b3, b4⟩ := Pt_1 hP
  obtain ⟨p, hp, e2⟩ := hI.1.2.2.2.2.2
  have p701 : ∀ (N : Nat) (x : Int32), 0 < N → N ≤ 60 → x = nI N → w_L_law_701 G J (B 0 0) (B 4 0) (B 4 1) (B 4 2) (B 4 3) (B 4 4) (B 4 5) v8 v9 x (v9 >>> ((5 : Int32) &&& 31)) 1 mc ms u := by
    intro N x hN hN2 hx
    refine l_low hN (by omega) hx ?_
    have hr := lw_lt (v9 >>> ((5 : Int32) &&& 31)) hN
    generalize lw (v9 >>> ((5 : Int32) &&& 31)) N = r at hr ⊢
    have ec : (1 : Int32) + nI r = nI (1 + r) := nI_add 1 r
    generalize hM : 1 + r = M at ec
    obtain ⟨a1, a2, a3⟩ := rd h 0 1 (by omega) (x := 1) rfl (by decide)
    rw [hR.1.2.1, e2] at a3
    refine ⟨a1, a2, ?_⟩
    rw [ec, a3, nI_add]
    have hlt : ((1000 : Int32) < nI (p + M)) ↔ 1000 < p + M := nI_ltI (a := 1000) (by omega) (by omega)
    refine ⟨fun _ => f750 hJ ⟨h, hR, hI, hQ⟩ (dle hd) b4, fun y => ?_⟩
    have hpM : p + M ≤ 1000 := by
      rcases Nat.lt_or_ge 1000 (p + M) with y3 | y3
      · exact absurd (hlt.mpr y3) y
      · exact y3
    have hh := pas1 hp (by omega : M ≤ 60) hpM
    obtain ⟨s', m', x', h1, h2, hW, hQ', hz, hc, hr'⟩ := minutes (n := t 3 0) (N := M) (by omega) M 0 s (t 3 1) (Iw_of hI) hQ (by omega)
    obtain ⟨p1, p2, p3⟩ := Pt_p hP h1 (by omega)
    have e197 : mI u 197 (B 0 0) = nI p := (fd h).2.2.2.2.2.2.1.trans e2
    have n1 : ¬ (nI M < (1 : Int32)) := nI_nlt (a := M) (b := 1) (by omega) (by omega)
    have m1 : nI M ≤ (60 : Int32) := nI_le (a := M) (b := 60) (by omega) (by omega)
    refine ⟨3 * (m' - t 3 1), 1000 * (m' - t 3 1), p1, p2, (fd h).1, fun y => absurd y n1, fun _ => ⟨fun _ => ⟨(fd h).1, ?_⟩, fun y => absurd m1 y⟩⟩
    rw [e197]
    refine ⟨fun _ => ⟨M + 1, ?_⟩, fun y => absurd hh.1 y⟩
    refine hc B G t ka z u _ _ 0 _ _ h rfl rfl (ka_of hI) (Nat.le_refl _) (Nat.le_refl _) (fun t' u' hS' l0 l1 => ⟨M + 1, ?_⟩)
    refine hr' B G t' (kf s' m') _ z u' 0 _ hS' hR (fun z' u2 hS2 hR2 => ⟨fun _ => ?_, fun y => absurd rfl y⟩)
    have hWf := I_2 hW (s' 2 0 + nI M) ⟨p + M, hpM, by rw [hz.1, e2, nI_add]⟩
    obtain ⟨d, hd1, ed⟩ := hd
    refine f750 hJ ⟨hS2, by rw [l0, l1]; exact hR2, Iv_of hWf l0 l1 (kf_cong m' rfl (fun j => rfl)).symm, by rw [l0, l1]; exact Qi_cong hQ' (fun k hk => by funext j; rw [up2_at, if_neg (by omega)])⟩ ?_ (p3 _ l1)
    exact ⟨d, by omega, hz.2.trans ed⟩
  exact l_low (N := 4) (by decide) (by decide) rfl ⟨fun _ => p701 60 _ (by decide) (by decide) rfl, fun _ => p701 3 _ (by decide) (by decide) rfl⟩
end S2T
