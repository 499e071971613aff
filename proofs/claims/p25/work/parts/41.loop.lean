section S2X
variable {B : Nat → Nat → Nat} {G : Ctx} {s z : Nat → Nat → Int32} {t : Nat → Nat → Nat} {ka : List Nat} {u : Mem}
variable {mc ms : Nat} {J : Nat → Nat → Nat → Nat → Nat → Nat → Nat → Int32 → Nat → Nat → Mem → Prop} {v8 v9 : Int32}
theorem p309 (hS : Syn B G s t ka z u) {k q : Nat} (hd : ∃ d, d ≤ k ∧ s 1 0 = nI d) (hk : k ≤ 90) (hP : Pt (q + 1) mc ms t) (hJ : HJ B G q (k + 1) (J (B 0 0) (B 4 0) (B 4 1) (B 4 2) (B 4 3) (B 4 4) (B 4 5) (v8 + 1))) {x : Int32} : w_L_law_309 G J (B 0 0) (B 4 0) (B 4 1) (B 4 2) (B 4 3) (B 4 4) (B 4 5) v8 v9 x (B 0 0) mc ms u := by
  obtain ⟨b1, b2, b3, b4⟩ := Pt_1 hP
  refine ⟨0, 0, Nat.zero_le _, Nat.zero_le _, l_streets hS (fun s' z' u' hS' e => ?_)⟩
  obtain ⟨d, hd1, ed⟩ := hd
  exact f750 hJ hS' ⟨d, by omega, e.trans ed⟩ b4
theorem p279 (hS : Syn B G s t ka z u) {k q : Nat} (hd : ∃ d, d ≤ k ∧ s 1 0 = nI d) (hk : k ≤ 90) (hP : Pt (q + 1) mc ms t) (hJ : HJ B G q (k + 1) (J (B 0 0) (B 4 0) (B 4 1) (B 4 2) (B 4 3) (B 4 4) (B 4 5) (v8 + 1))) {x : Int32} : w_L_law_279 G J (B 0 0) (B 4 0) (B 4 1) (B 4 2) (B 4 3) (B 4 4) (B 4 5) v8 v9 x mc ms u := by
  have hS' := hS
  obtain ⟨h, hR, hI, hQ⟩ := hS'
  have hn8 : t 3 0 ≤ 8 := hQ.1.1
  refine ⟨fun _ => ⟨fun _ => ?_, fun _ => ⟨fun _ => ⟨fun _ => p678 hS hd hk hP hJ, fun _ => ?_⟩, fun _ => pnight hS hd hk hP hJ⟩⟩, fun _ => ⟨fun _ => ⟨fun _ => p309 hS hd hk hP hJ, fun _ => p309 hS hd hk hP hJ⟩, fun _ => p309 hS hd hk hP hJ⟩⟩
  · refine l_low (N := 4) (by decide) (by decide) rfl (l_low (N := 8) (by decide) (by decide) rfl ?_)
    have hi := lw_lt (v9 >>> ((5 : Int32) &&& 31)) (N := 4) (by decide)
    have hj := lw_lt (v9 >>> ((7 : Int32) &&& 31)) (N := 8) (by decide)
    generalize lw (v9 >>> ((5 : Int32) &&& 31)) 4 = i at hi ⊢
    generalize lw (v9 >>> ((7 : Int32) &&& 31)) 8 = j at hj ⊢
    obtain ⟨g0, g1, g2⟩ := hR.2.2.1 i hi
    obtain ⟨a1, a2, a3⟩ := rd h 2 (3 * i + 2) (by omega) (j32 i) (by show 3 * i + 2 < 12; omega)
    obtain ⟨c1, c2, c3⟩ := rd h 2 (3 * i) (by omega) (j3 i) (by show 3 * i < 12; omega)
    rw [g0] at c3
    refine ⟨a1, a2, ?_⟩
    rw [a3]
    rcases g2 with ⟨y1, y2⟩ | ⟨y1, y2⟩
    · rw [y2]
      refine ⟨fun y => absurd y (by decide), fun _ => ⟨c1, c2, ?_⟩⟩
      rw [c3]
      exact p375 hS hd hk hP hJ hi hj (.inl ⟨y1, rfl⟩)
    · exact ⟨fun _ => p375 hS hd hk hP hJ hi hj (.inr ⟨y1, rfl⟩), fun y => absurd (Int32.not_lt.mp y2) y⟩
  · obtain ⟨o1, o2, o3⟩ := rd h 0 2 (by omega) (x := 2) rfl (by decide)
    rw [hR.1.2.2.1] at o3
    refine ⟨o1, o2, ?_⟩
    rw [o3]
    refine ⟨fun _ => p678 hS hd hk hP hJ, fun y => ⟨o1, o2, ?_⟩⟩
    have hn : 0 < t 3 0 := by
      rcases Nat.eq_zero_or_pos (t 3 0) with q2 | q2
      · rw [q2] at y; exact absurd (by decide) y
      · exact q2
    refine l_low hn (by omega) rfl (l_low (N := 2) (by decide) (by decide) rfl ?_)
    have hw := lw_lt (v9 >>> ((5 : Int32) &&& 31)) hn
    have hg := lw_lt (v9 >>> ((8 : Int32) &&& 31)) (N := 2) (by decide)
    generalize lw (v9 >>> ((5 : Int32) &&& 31)) (t 3 0) = w at hw ⊢
    generalize lw (v9 >>> ((8 : Int32) &&& 31)) 2 = g at hg ⊢
    obtain ⟨_, _, r2, _, _, r5⟩ := hR.2.2.2.1 w hw
    obtain ⟨a1, a2, a3⟩ := rd h 3 (6 * w + 2) (by omega) (j62 w) (by show 6 * w + 2 < 48; omega)
    obtain ⟨c1, c2, c3⟩ := rd h 3 (6 * w + 5) (by omega) (j65 w) (by show 6 * w + 5 < 48; omega)
    rw [r2] at a3
    rw [r5] at c3
    refine ⟨a1, a2, ?_⟩
    rw [a3]
    refine ⟨fun y1 => ⟨c1, c2, ?_⟩, fun y1 => p528N hS hd hk hP hJ hw hg (.inl y1)⟩
    rw [c3]
    exact ⟨fun y2 => p528Y hS hd hk hP hJ hw hg y1 y2, fun y2 => p528N hS hd hk hP hJ hw hg (.inr y2)⟩
theorem ask_to : ∀ f, f < 8 → ∀ g, g < 7 → (nI f + 1) + nI g - ((nI f + 1) + nI g) / (8 : Int32) * (8 : Int32) = nI ((f + 1 + g) % 8) ∧ f ≠ (f + 1 + g) % 8 := by decide +kernel
theorem lawloop (hG : G.2.2 4 ≤ 260) : ∀ (q i : Nat), i + q = 90 → ∀ (s : Nat → Nat → Int32) (t : Nat → Nat → Nat) (ka : List Nat) (z : Nat → Nat → Int32) (mc ms : Nat) (u : Mem), Syn B G s t ka z u → (∃ d, d ≤ i ∧ s 1 0 = nI d) → Pt q mc ms t → w_L_law_139 G (q + 1) (B 0 0) (B 4 0) (B 4 1) (B 4 2) (B 4 3) (B 4 4) (B 4 5) (nI i) mc ms u := by
  intro q
  induction q with
  | zero =>
    intro i hi s t ka z mc ms u hS hd hP
    rw [wS_L_law_139, show i = 90 by omega]
    exact ⟨fun _ => trivial, fun y => absurd (by decide) y⟩
  | succ q ih =>
    intro i hi s t ka z mc ms u hS hd hP
    have n90 : ¬ ((90 : Int32) ≤ nI i) := nI_ge (a := i) (b := 90) (by omega) (by omega)
    have hJ : HJ B G q (i + 1) (w_L_law_139 G (q + 1) (B 0 0) (B 4 0) (B 4 1) (B 4 2) (B 4 3) (B 4 4) (B 4 5) (nI i + 1)) := fun s t ka z mc ms u hS hd hP => by
      rw [nI_1]; exact ih (i + 1) (by omega) s t ka z mc ms u hS hd hP
    rw [wS_L_law_139]
    refine ⟨fun y => absurd y n90, fun _ => l_cell (by omega) (by omega) (fun r => l_low (N := 18) (by decide) (by decide) rfl ⟨fun _ => p279 hS hd (by omega) hP hJ, fun _ => ?_⟩)⟩
    have hS' := hS
    obtain ⟨h, hR, hI, hQ⟩ := hS'
    have hn8 : t 3 0 ≤ 8 := hQ.1.1
    obtain ⟨o1, o2, o3⟩ := rd h 0 2 (by omega) (x := 2) rfl (by decide)
    rw [hR.1.2.2.1] at o3
    refine ⟨o1, o2, ?_⟩
    rw [o3]
    refine ⟨fun _ => p279 hS hd (by omega) hP hJ, fun y => ⟨o1, o2, ?_⟩⟩
    have hlt : t 3 0 < 8 := by
      rcases Nat.lt_or_ge (t 3 0) 8 with y2 | y2
      · exact y2
      · rw [show t 3 0 = 8 by omega] at y; exact absurd (by decide) y
    refine l_low (N := 8) (by decide) (by decide) rfl ?_
    have hf := lw_lt (r >>> ((5 : Int32) &&& 31)) (N := 8) (by decide)
    generalize lw (r >>> ((5 : Int32) &&& 31)) 8 = f at hf ⊢
    refine wr h 3 (6 * t 3 0) (by omega) (j6 _) (by show 6 * t 3 0 < 48; omega) (fun u1 h1 => ?_)
    obtain ⟨a1, a2, a3⟩ := rd h1 3 (6 * t 3 0) (by omega) (j6 _) (by show 6 * t 3 0 < 48; omega)
    rw [up2_at, if_pos ⟨rfl, rfl⟩] at a3
    refine ⟨a1, a2, l_low (N := 7) (by decide) (by decide) rfl ⟨x8, ?_⟩⟩
    have hg := lw_lt (r >>> ((8 : Int32) &&& 31)) (N := 7) (by decide)
    generalize lw (r >>> ((8 : Int32) &&& 31)) 7 = g at hg ⊢
    obtain ⟨e1, e2⟩ := ask_to f hf g hg
    rw [a3, e1]
    have hd8 : (f + 1 + g) % 8 < 8 := Nat.mod_lt _ (by decide)
    generalize (f + 1 + g) % 8 = d at hd8 e2 ⊢
    refine wr h1 3 (6 * t 3 0 + 1) (by omega) (j61 _) (by show 6 * t 3 0 + 1 < 48; omega) (fun u2 h2 => ?_)
    refine wr h2 3 (6 * t 3 0 + 3) (by omega) (j63 _) (by show 6 * t 3 0 + 3 < 48; omega) (fun u3 h3 => ?_)
    obtain ⟨p1, p2, p3⟩ := rd h3 0 2 (by omega) (x := 2) rfl (by decide)
    have p4 : mA u3 (B 4 0) (2 : Int32).toNatClampNeg = nI (t 3 0) := p3.trans hR.1.2.2.1
    refine ⟨p1, p2, ?_⟩
    rw [p4]
    refine wr h3 0 2 (by omega) rfl (by decide) (fun u4 h4 => ?_)
    rw [nI_1] at h4
    obtain ⟨c1, c2, c3⟩ := rd h4 3 (6 * t 3 0) (by omega) (j6 _) (by show 6 * t 3 0 < 48; omega)
    obtain ⟨d1, d2, d3⟩ := rd h4 3 (6 * t 3 0 + 1) (by omega) (j61 _) (by show 6 * t 3 0 + 1 < 48; omega)
    rw [up2_at, if_neg (by omega), up2_at, if_neg (by omega), up2_at, if_neg (by omega), up2_at, if_pos ⟨rfl, rfl⟩] at c3
    rw [up2_at, if_neg (by omega), up2_at, if_neg (by omega), up2_at, if_pos ⟨rfl, rfl⟩] at d3
    obtain ⟨k1, k2, k3⟩ := Pt_w hP
    refine ⟨c1, c2, d1, d2, 3, 600, k1, k2, (fd h4).1, ?_⟩
    rw [c3, d3]
    obtain ⟨y3, y5, y6⟩ := hI.2.2.2.2.2.2.2.2.1 (t 3 0) (Nat.le_refl _)
    refine c_ask h4 hI hf hd8 e2 (by omega) (fun t' u5 h5 f0 f1 => ?_)
    have hR5 := R_ask hR hlt y3 y5 y6 (nI f) (nI d)
    obtain ⟨m1, m2, m3⟩ := rd h5 0 2 (by omega) (x := 2) rfl (by decide)
    rw [up2_at, if_pos ⟨rfl, rfl⟩] at m3
    refine ⟨m1, m2, ?_⟩
    rw [m3, nI_pred]
    refine ⟨fun _ => ?_, fun y => absurd rfl y⟩
    obtain ⟨dd, hd1, ed⟩ := hd
    exact f750 hJ ⟨h5, by rw [f0, f1]; exact hR5, I_ask hI hf hd8 (by omega) f0 f1, by rw [f0, f1]; exact Qi_ask hQ hlt y3 hf hd8 e2⟩ ⟨dd, by omega, ed⟩ (k3 t' f1)
end S2X
