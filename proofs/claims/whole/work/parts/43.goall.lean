section S2P
variable {B : Nat → Nat → Nat} {G : Ctx} {s s2 : Nat → Nat → Int32} {t : Nat → Nat → Nat} {ka : List Nat} {u : Mem}
theorem goAll {n : Nat} : ∀ (d i : Nat) (s : Nat → Nat → Int32) (m : Nat), Iw s n m → i + d = n → ∃ (s' : Nat → Nat → Int32) (m' x : Nat), x ≤ d ∧ m ≤ m' ∧ m' ≤ 300 ∧ Iw s' n m' ∧ s' 2 0 = s 2 0 ∧
    (∀ (B : Nat → Nat → Nat) (G : Ctx) (t : Nat → Nat → Nat) (ka : List Nat) (σ : Nat → Nat → Int32) (u : Mem) (mc ms c : Nat) (K : Int32 → Mem → Prop), S2 B G s t ka σ u → t 3 0 = n → t 3 1 = m → ka = kf s m → 3 * (m' - m) ≤ mc → 1000 * (m' - m) ≤ ms → (∀ t' u', S2 B G s' t' (kf s' m') σ u' → t' 3 0 = n → t' 3 1 = m' → K (nI (c + x)) u') → w_X5_goOn_4 G (B 0 0) K (d + 1) (nI c) (nI i) mc ms u) ∧
    (∀ (B : Nat → Nat → Nat) (G : Ctx) (t : Nat → Nat → Nat) (ka : List Nat) (σ : Nat → Nat → Int32) (u : Mem) (v1 v3 : Int32) (c : Nat) (K : Int32 → Mem → Prop) (J43 : Int32 → Int32 → Mem → Prop), S2 B G σ t ka s u → (∀ u', S2 B G σ t ka s' u' → mI u' 224 (B 0 1) = mI u 224 (B 0 1) → mJ u' (B 0 2) 0 = mJ u (B 0 2) 0 → J43 (nI (c + x)) (v3 + 1) u') → w_X6_pass_85 G (B 0 1) v1 K J43 (d + 1) (nI c) v3 (nI i) u) := by
  intro d
  induction d with
  | zero =>
    intro i s m hW hi
    have hn : n ≤ 60 := hW.1.1
    have e : nI n ≤ nI i := by rw [nI_leI (by omega) (by omega)]; omega
    refine ⟨s, m, 0, Nat.le_refl _, Nat.le_refl _, hW.1.2.1, hW, rfl, fun B G t ka σ u mc ms c K h n0 n1 ek q1 q2 hK => ?_, fun B G t ka σ u v1 v3 c K J43 h hK => ?_⟩
    · obtain ⟨f1, f2, f3, f4, f5, f6, f7, f8, f9, f10, f11, f12, f13, f14, f15, f16, f17, f18, f19, f20, f21, f22⟩ := fd h
      rw [wS_X5_goOn_4]
      refine ⟨f1, fun r hr => ⟨_, hr.trans f4, f15, f15, ?_⟩⟩
      rw [f18, n0]
      exact ⟨fun _ => hK t u (ek ▸ h) n0 n1, fun z => absurd e z⟩
    · have e234 : mI u 234 (B 0 1) = nI n := (fm h).2.2.2.1.trans hW.1.2.2.1
      rw [wS_X6_pass_85]
      refine ⟨(fm h).1, ?_⟩
      rw [e234]
      exact ⟨fun _ => hK u h rfl rfl, fun z => absurd e z⟩
  | succ d ih =>
    intro i s m hW hi
    have hn : n ≤ 60 := hW.1.1
    have hi2 : i < n := by omega
    have wv := vp_in_nI (n := i) (N := 60) (by omega) (by decide)
    have cl := nIc (i := i) (N := 60) (by omega) (by decide)
    -- the walk stays as it is
    have stay : (s 14 i = -1 ∧ s 13 i = 0) ∨ (∃ e, e < 4 ∧ s 14 i = nI e ∧ s 13 i = 3) → ∃ (s' : Nat → Nat → Int32) (m' x : Nat), x ≤ d + 1 ∧ m ≤ m' ∧ m' ≤ 300 ∧ Iw s' n m' ∧ s' 2 0 = s 2 0 ∧
    (∀ (B : Nat → Nat → Nat) (G : Ctx) (t : Nat → Nat → Nat) (ka : List Nat) (σ : Nat → Nat → Int32) (u : Mem) (mc ms c : Nat) (K : Int32 → Mem → Prop), S2 B G s t ka σ u → t 3 0 = n → t 3 1 = m → ka = kf s m → 3 * (m' - m) ≤ mc → 1000 * (m' - m) ≤ ms → (∀ t' u', S2 B G s' t' (kf s' m') σ u' → t' 3 0 = n → t' 3 1 = m' → K (nI (c + x)) u') → w_X5_goOn_4 G (B 0 0) K (d + 1 + 1) (nI c) (nI i) mc ms u) ∧
    (∀ (B : Nat → Nat → Nat) (G : Ctx) (t : Nat → Nat → Nat) (ka : List Nat) (σ : Nat → Nat → Int32) (u : Mem) (v1 v3 : Int32) (c : Nat) (K : Int32 → Mem → Prop) (J43 : Int32 → Int32 → Mem → Prop), S2 B G σ t ka s u → (∀ u', S2 B G σ t ka s' u' → mI u' 224 (B 0 1) = mI u 224 (B 0 1) → mJ u' (B 0 2) 0 = mJ u (B 0 2) 0 → J43 (nI (c + x)) (v3 + 1) u') → w_X6_pass_85 G (B 0 1) v1 K J43 (d + 1 + 1) (nI c) v3 (nI i) u) := by
      intro hst
      obtain ⟨s', m', x, hx, h1, h2, hW2, hz, hc, hr⟩ := ih (i + 1) s m hW (by omega)
      refine ⟨s', m', x, by omega, h1, h2, hW2, hz, fun B G t ka σ u mc ms c K h n0 n1 ek q1 q2 hK => ?_, fun B G t ka σ u v1 v3 c K J43 h hK => ?_⟩
      · have go : w_X5_goOn_4 G (B 0 0) K (d + 1) (nI c) (nI i + 1) mc ms u := by
          rw [nI_1]; exact hc B G t ka σ u mc ms c K h n0 n1 ek q1 q2 hK
        obtain ⟨f1, f2, f3, f4, f5, f6, f7, f8, f9, f10, f11, f12, f13, f14, f15, f16, f17, f18, f19, f20, f21, f22⟩ := fd h
        have hi3 : i < t 3 0 := by omega
        have gw := fw h hi3
        rw [wS_X5_goOn_4]
        refine ⟨f1, fun r hr => ⟨_, hr.trans f4, f15, f15, ?_⟩⟩
        rw [f18]
        refine ⟨fun z => absurd z (nle hi3 (by omega)), fun _ => ⟨f1, fun r hr => ⟨_, hr.trans f4, f15, ?_⟩⟩⟩
        rw [w_get0 h hi3]
        refine ⟨_, rfl, gw.1, gw.1, fun r55 hr => ⟨fun _ => go, fun a56 h56 => ⟨gw.1, ?_⟩⟩⟩
        rw [gw.2.2.2.2.1]
        rcases hst with ⟨z1, _⟩ | ⟨e, he, z1, z2⟩
        · rw [gw.2.2.2.2.2.1, if_pos z1] at hr
          rw [hr] at h56; cases h56
        · exact ⟨fun _ => go, fun z => absurd z2 z⟩
      · have go : w_X6_pass_85 G (B 0 1) v1 K J43 (d + 1) (nI c) v3 (nI i + 1) u := by
          rw [nI_1]; exact hr B G t ka σ u v1 v3 c K J43 h hK
        have f1 := (fm h).1
        have e234 : mI u 234 (B 0 1) = nI n := (fm h).2.2.2.1.trans hW.1.2.2.1
        have r13 := fr h (k := 13) (by unfold ak; omega)
        have a13 : mA u (B 4 13) i = s 13 i := fa h (k := 13) (by unfold ak; omega) (by show i < 60; omega)
        have y1 : ¬ s 13 i = 1 := by
          rcases hst with ⟨_, z⟩ | ⟨_, _, _, z⟩ <;> rw [z] <;> decide
        have y2 : ¬ s 13 i = 2 := by
          rcases hst with ⟨_, z⟩ | ⟨_, _, _, z⟩ <;> rw [z] <;> decide
        rw [wS_X6_pass_85]
        refine ⟨f1, ?_⟩
        rw [e234]
        refine ⟨fun z => absurd z (nle hi2 (by omega)), fun _ => ⟨f1, fun r hr => ⟨_, hr.trans r13.1, r13.2.1, by rw [r13.2.2]; exact wv, ?_⟩⟩⟩
        rw [cl, a13]
        refine ⟨fun z => absurd z y1, fun _ => ⟨f1, fun r hr => ⟨_, hr.trans r13.1, r13.2.1, by rw [r13.2.2]; exact wv, ?_⟩⟩⟩
        rw [a13]
        exact ⟨fun z => absurd z y2, fun _ => go⟩
    rcases hW.2.2.2.2.2.2.2.1 i hi2 with ⟨z1, z2⟩ | ⟨e, he, z1, z2⟩
    · exact stay (.inl ⟨z1, z2⟩)
    · by_cases h3 : s 13 i = 3
      · exact stay (.inr ⟨e, he, z1, h3⟩)
      · have h12 : s 13 i = 1 ∨ s 13 i = 2 := by
          rcases z2 with y | y | y
          · exact .inl y
          · exact .inr y
          · exact absurd y h3
        obtain ⟨s1, m1, x1, hx1, p1, p2, hW1, hz1, hc1, hr1⟩ := go1 hW hi2 he z1 h12
        obtain ⟨s', m', x, hx, h1, h2, hW2, hz, hc, hr⟩ := ih (i + 1) s1 m1 hW1 (by omega)
        refine ⟨s', m', x1 + x, by omega, by omega, h2, hW2, hz.trans hz1, fun B G t ka σ u mc ms c K h n0 n1 ek q1 q2 hK => ?_, fun B G t ka σ u v1 v3 c K J43 h hK => ?_⟩
        · obtain ⟨f1, f2, f3, f4, f5, f6, f7, f8, f9, f10, f11, f12, f13, f14, f15, f16, f17, f18, f19, f20, f21, f22⟩ := fd h
          have hi3 : i < t 3 0 := by omega
          have gw := fw h hi3
          rw [wS_X5_goOn_4]
          refine ⟨f1, fun r hr => ⟨_, hr.trans f4, f15, f15, ?_⟩⟩
          rw [f18]
          refine ⟨fun z => absurd z (nle hi3 (by omega)), fun _ => ⟨f1, fun r hr => ⟨_, hr.trans f4, f15, ?_⟩⟩⟩
          rw [w_get0 h hi3]
          have hzz : ¬ s 14 i = -1 := by rw [z1]; exact fun k => absurd (k ▸ nI_pos (n := e) (by omega)) (by decide)
          refine ⟨_, rfl, gw.1, gw.1, fun r55 hr => ⟨fun z => ?_, fun a56 h56 => ⟨gw.1, ?_⟩⟩⟩
          · rw [gw.2.2.2.2.2.1, if_neg hzz, z] at hr; cases hr
          · rw [gw.2.2.2.2.2.1, if_neg hzz, z1, nIc he (by decide : 4 < 2 ^ 31), h56] at hr
            have ha := Option.some.inj hr
            subst ha
            rw [gw.2.2.2.2.1]
            refine ⟨fun z => absurd z h3, fun _ => ?_⟩
            refine hc1 B G t ka σ u mc ms c (fun v mc ms u => w_X5_goOn_79 G (B 0 0) K (w_X5_goOn_4 G (B 0 0) K (d + 1)) v (nI i) mc ms u) h n0 n1 ek (by omega) (by omega) (fun t1 u1 hS1 k0 k1 kw => ?_)
            show w_X5_goOn_4 G (B 0 0) K (d + 1) (nI (c + x1)) (nI i + 1) _ _ u1
            rw [nI_1]
            refine hc B G t1 (kf s1 m1) σ u1 _ _ (c + x1) K hS1 k0 k1 rfl (by omega) (by omega) (fun t2 u2 hS2 l0 l1 => ?_)
            rw [Nat.add_assoc]
            exact hK t2 u2 hS2 l0 l1
        · have f1 := (fm h).1
          have e234 : mI u 234 (B 0 1) = nI n := (fm h).2.2.2.1.trans hW.1.2.2.1
          have r13 := fr h (k := 13) (by unfold ak; omega)
          have a13 : mA u (B 4 13) i = s 13 i := fa h (k := 13) (by unfold ak; omega) (by show i < 60; omega)
          have go : w_X6_pass_116 G (B 0 1) v1 K J43 (w_X6_pass_85 G (B 0 1) v1 K J43 (d + 1)) (nI c) v3 (nI i) u := by
            refine ⟨f1, hr1 B G t ka σ u _ h (fun u1 hS1 g1 g2 => ?_)⟩
            have nxt : w_X6_pass_85 G (B 0 1) v1 K J43 (d + 1) (nI (c + x1)) v3 (nI i + 1) u1 := by
              rw [nI_1]
              refine hr B G t ka σ u1 v1 v3 (c + x1) K J43 hS1 (fun u2 hS2 g3 g4 => ?_)
              rw [Nat.add_assoc]
              exact hK u2 hS2 (g3.trans g1) (g4.trans g2)
            rcases Nat.eq_zero_or_pos x1 with y | y
            · subst y
              refine ⟨fun _ => ?_, fun z => absurd rfl z⟩
              show w_X6_pass_85 G (B 0 1) v1 K J43 (d + 1) (nI c + 0) v3 (nI i + 1) u1
              rw [Int32.add_zero]; exact nxt
            · have y1 : x1 = 1 := by omega
              subst y1
              refine ⟨fun z => absurd z (by decide), fun _ => ?_⟩
              show w_X6_pass_85 G (B 0 1) v1 K J43 (d + 1) (nI c + 1) v3 (nI i + 1) u1
              rw [nI_1 c]; exact nxt
          rw [wS_X6_pass_85]
          refine ⟨f1, ?_⟩
          rw [e234]
          refine ⟨fun z => absurd z (nle hi2 (by omega)), fun _ => ⟨f1, fun r hr => ⟨_, hr.trans r13.1, r13.2.1, by rw [r13.2.2]; exact wv, ?_⟩⟩⟩
          rw [cl, a13]
          refine ⟨fun _ => go, fun z => ⟨f1, fun r hr => ⟨_, hr.trans r13.1, r13.2.1, by rw [r13.2.2]; exact wv, ?_⟩⟩⟩
          rw [a13]
          exact ⟨fun _ => go, fun z2 => absurd (h12.resolve_left z) z2⟩
end S2P
