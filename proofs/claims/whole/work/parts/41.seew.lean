section S2P
variable {B : Nat → Nat → Nat} {G : Ctx} {s s2 : Nat → Nat → Int32} {t : Nat → Nat → Nat} {ka : List Nat} {u : Mem}
theorem endStep {n m w e p : Nat} (hW : Iw s n m) (hw : w < n) (he : e < 4) (z14 : s 14 w = nI e) (z7 : s 7 e = nI p) (hp : p < 8) : ∃ (s' : Nat → Nat → Int32) (x : Nat), x ≤ 1 ∧ Iw s' n m ∧ s' 2 0 = s 2 0 ∧ kf s' m = kf s m ∧
    (∀ (B : Nat → Nat → Nat) (G : Ctx) (t : Nat → Nat → Nat) (ka : List Nat) (σ : Nat → Nat → Int32) (u : Mem) (K : Int32 → Mem → Prop), S2 B G s t ka σ u → t 3 0 = n → (∀ u', S2 B G s' t ka σ u' → K (nI x) u') → w_X5_endIfThere G (t 0 w) (B 3 e) u K) ∧
    (∀ (B : Nat → Nat → Nat) (G : Ctx) (t : Nat → Nat → Nat) (ka : List Nat) (σ : Nat → Nat → Int32) (u : Mem) (K : Int32 → Mem → Prop), S2 B G σ t ka s u → (∀ u', S2 B G σ t ka s' u' → mI u' 224 (B 0 1) = mI u 224 (B 0 1) → mJ u' (B 0 2) 0 = mJ u (B 0 2) 0 → K (nI x) u') → (OB u (B 0 1) 7 ∧ (∀ r103 : Option Nat, r103 = mR u 236 (B 0 1) → (∃ a104 : Nat, r103 = some a104 ∧ (OB u a104 8 ∧ vp_in (nI w) (mN u a104) ∧ ((nI p = (mA u a104 (nI w).toNatClampNeg) → (w_X6_goes_171 G (B 0 1) (nI w) K (nI e) (1 : Int32) u)) ∧ (¬ nI p = (mA u a104 (nI w).toNatClampNeg) → (w_X6_goes_171 G (B 0 1) (nI w) K (nI e) (0 : Int32) u)))))))) := by
  have hn : n ≤ 60 := hW.1.1
  obtain ⟨f, d, hf, hd, e11, e12⟩ := hW.2.2.2.2.2.2.1 w hw
  have wv := vp_in_nI (n := w) (N := 60) (by omega) (by decide)
  have cl := nIc (i := w) (N := 60) (by omega) (by decide)
  have ve := vp_in_nI (n := e) (N := 4) he (by decide)
  have ce := nIc (i := e) (N := 4) he (by decide)
  by_cases hpd : nI p = s 12 w
  · refine ⟨up2 (up2 s 13 w 3) 9 e 0, 1, Nat.le_refl _, Iw_st (I_9 (I_13 hW w 3 hw (.inr (.inr rfl)) ⟨e, he, z14⟩) e 0) (kf_cong m rfl (fun j => rfl)), rfl, kf_cong m rfl (fun j => rfl), fun B G t ka σ u K h e0 hK => ?_, fun B G t ka σ u K h hK => ?_⟩
    · have hw' : w < t 3 0 := by omega
      have g := fe h he
      have gw := fw h hw'
      refine ⟨g.2.1, gw.1, ?_⟩
      rw [g.2.2.2.1, gw.2.2.2.1, z7]
      refine ⟨fun _ => ⟨gw.1, fun u2 h2 => ?_⟩, fun z => absurd hpd z⟩
      have hS := S_wstate h hw' 3
      rw [← h2] at hS
      refine ⟨(fe hS he).2.1, .inr rfl, fun u3 h3 => ?_⟩
      rw [h3]
      exact hK _ (S_ebusy hS he 0 1 (by simp))
    · have r12 := fr h (k := 12) (by unfold ak; omega)
      have r13 := fr h (k := 13) (by unfold ak; omega)
      refine ⟨(fm h).1, fun r hr => ⟨_, hr.trans r12.1, r12.2.1, by rw [r12.2.2]; exact wv, ?_⟩⟩
      rw [cl, fa h (k := 12) (i := w) (by unfold ak; omega) (by show w < 60; omega)]
      refine ⟨fun _ => ⟨fun z => absurd z (by decide), fun _ => ⟨(fm h).1, fun r hr => ⟨_, hr.trans r13.1, r13.2.1, by rw [r13.2.2]; exact wv, fun u2 h2 => ?_⟩⟩⟩, fun z => absurd hpd z⟩
      rw [cl] at h2
      have hS := S_mrow h (k0 := 13) (i := w) (by unfold ak; omega) (by show w < 60; omega) 3
      rw [← h2] at hS
      have r9 := fr hS (k := 9) (by unfold ak; omega)
      refine ⟨(fm hS).1, fun r hr => ⟨_, hr.trans r9.1, r9.2.1, by rw [r9.2.2]; exact ve, .inl rfl, fun u3 h3 => ⟨.inr rfl, ?_⟩⟩⟩
      rw [ce] at h3
      rw [h3]
      exact hK _ (S_mrow hS (k0 := 9) (i := e) (by unfold ak; omega) (by show e < 4; omega) 0) (by rw [gI_setA, h2, gI_setA]) (by rw [gJ_setA, h2, gJ_setA])
  · refine ⟨s, 0, by omega, hW, rfl, rfl, fun B G t ka σ u K h e0 hK => ?_, fun B G t ka σ u K h hK => ?_⟩
    · have hw' : w < t 3 0 := by omega
      have g := fe h he
      have gw := fw h hw'
      refine ⟨g.2.1, gw.1, ?_⟩
      rw [g.2.2.2.1, gw.2.2.2.1, z7]
      exact ⟨fun z => absurd z hpd, fun _ => hK u h⟩
    · have r12 := fr h (k := 12) (by unfold ak; omega)
      refine ⟨(fm h).1, fun r hr => ⟨_, hr.trans r12.1, r12.2.1, by rw [r12.2.2]; exact wv, ?_⟩⟩
      rw [cl, fa h (k := 12) (i := w) (by unfold ak; omega) (by show w < 60; omega)]
      exact ⟨fun z => absurd z hpd, fun _ => ⟨fun _ => ⟨.inl rfl, hK u h rfl rfl⟩, fun z => absurd rfl z⟩⟩
theorem seeEnd {n m w e p : Nat} (hW : Iw s n m) (hw : w < n) (he : e < 4) (z14 : s 14 w = nI e) (z7 : s 7 e = nI p) (hp : p < 8) : ∃ (s' : Nat → Nat → Int32) (m' x : Nat), x ≤ 1 ∧ m ≤ m' ∧ m' ≤ 300 ∧ Iw s' n m' ∧ s' 2 0 = s 2 0 ∧
    (∀ (B : Nat → Nat → Nat) (G : Ctx) (t : Nat → Nat → Nat) (ka : List Nat) (σ : Nat → Nat → Int32) (u : Mem) (mc ms : Nat) (K : Int32 → Mem → Prop), S2 B G s t ka σ u → t 3 0 = n → t 3 1 = m → ka = kf s m → 3 * (m' - m) ≤ mc → 1000 * (m' - m) ≤ ms → (∀ t' u', S2 B G s' t' (kf s' m') σ u' → t' 3 0 = n → t' 3 1 = m' → (∀ w, t' 0 w = t 0 w) → K (nI x) u') → w_X5_see_48 G (B 0 0) (t 0 w) (nI p) (fun u61 => w_X5_endIfThere G (t 0 w) (B 3 e) u61 K) (B 1 p) mc ms u) ∧
    (∀ (B : Nat → Nat → Nat) (G : Ctx) (t : Nat → Nat → Nat) (ka : List Nat) (σ : Nat → Nat → Int32) (u : Mem) (K : Int32 → Mem → Prop), S2 B G σ t ka s u → (∀ u', S2 B G σ t ka s' u' → mI u' 224 (B 0 1) = mI u 224 (B 0 1) → mJ u' (B 0 2) 0 = mJ u (B 0 2) 0 → K (nI x) u') → w_X6_goes_150 G (B 0 1) (nI w) K (nI e) (nI p) u) := by
  obtain ⟨s1, m', h1, h2, hW1, hsm, hc1, hr1⟩ := see48 hW hp hw
  obtain ⟨s', x, hx, hW2, hz, hkf, hc2, hr2⟩ := endStep hW1 hw he (by rw [hsm 14 (by omega)]; exact z14) (by rw [hsm 7 (by omega)]; exact z7) hp
  refine ⟨s', m', x, hx, h1, h2, hW2, hz.trans (by rw [hsm 2 (by omega)]), fun B G t ka σ u mc ms K h e0 e1 ek q1 q2 hK => ?_, fun B G t ka σ u K h hK => ⟨(fm h).1, ?_⟩⟩
  · refine hc1 B G t ka σ u mc ms _ h e0 e1 ek q1 q2 (fun t' u' hS n0 n1 nw => ?_)
    show w_X5_endIfThere G (t 0 w) (B 3 e) u' K
    rw [← nw w]
    exact hc2 B G t' (kf s1 m') σ u' K hS n0 (fun u2 hS2 => hK t' u2 (hkf ▸ hS2) n0 n1 nw)
  · exact hr1 B G t ka σ u _ h (fun u' hS g1 g2 => hr2 B G t ka σ u' K hS (fun u2 hS2 g3 g4 => hK u2 hS2 (g3.trans g1) (g4.trans g2)))
theorem seeW {n m w e : Nat} (hW : Iw s n m) (hw : w < n) (he : e < 4) (z14 : s 14 w = nI e) (z13 : s 13 w = 2) : ∃ (s' : Nat → Nat → Int32) (m' x : Nat), x ≤ 1 ∧ m ≤ m' ∧ m' ≤ 300 ∧ Iw s' n m' ∧ s' 2 0 = s 2 0 ∧
    (∀ (B : Nat → Nat → Nat) (G : Ctx) (t : Nat → Nat → Nat) (ka : List Nat) (σ : Nat → Nat → Int32) (u : Mem) (mc ms : Nat) (K : Int32 → Mem → Prop), S2 B G s t ka σ u → t 3 0 = n → t 3 1 = m → ka = kf s m → 3 * (m' - m) ≤ mc → 1000 * (m' - m) ≤ ms → (∀ t' u', S2 B G s' t' (kf s' m') σ u' → t' 3 0 = n → t' 3 1 = m' → (∀ w, t' 0 w = t 0 w) → K (nI x) u') → w_X5_see G (B 0 0) (t 0 w) (s 7 e) mc ms u (fun u61 => w_X5_endIfThere G (t 0 w) (B 3 e) u61 K)) ∧
    (∀ (B : Nat → Nat → Nat) (G : Ctx) (t : Nat → Nat → Nat) (ka : List Nat) (σ : Nat → Nat → Int32) (u : Mem) (K : Int32 → Mem → Prop), S2 B G σ t ka s u → (∀ u', S2 B G σ t ka s' u' → mI u' 224 (B 0 1) = mI u 224 (B 0 1) → mJ u' (B 0 2) 0 = mJ u (B 0 2) 0 → K (nI x) u') → w_X6_goes_88 G (B 0 1) (nI w) K (nI e) u) := by
  have hn : n ≤ 60 := hW.1.1
  obtain ⟨p, hp, z7⟩ := hW.2.2.2.2.1 e he
  obtain ⟨pp, hpp, e3⟩ := hW.2.1 p hp
  obtain ⟨cc, hcc, e4⟩ := hW.2.2.1 p hp
  have wv := vp_in_nI (n := w) (N := 60) (by omega) (by decide)
  have cl := nIc (i := w) (N := 60) (by omega) (by decide)
  have ve := vp_in_nI (n := e) (N := 4) he (by decide)
  have ce := nIc (i := e) (N := 4) he (by decide)
  have vp := vp_in_nI (n := p) (N := 8) hp (by decide)
  have cp := nIc (i := p) (N := 8) hp (by decide)
  have key : ∀ (s1 : Nat → Nat → Int32), Iw s1 n m → kf s1 m = kf s m → s1 2 0 = s 2 0 → s1 14 w = nI e → s1 7 e = nI p →
      (∀ (B : Nat → Nat → Nat) (G : Ctx) (t : Nat → Nat → Nat) (ka : List Nat) (σ : Nat → Nat → Int32) (u : Mem) (mc ms : Nat) (K : Mem → Prop), S2 B G s t ka σ u → t 3 0 = n → (∀ u', S2 B G s1 t ka σ u' → w_X5_see_48 G (B 0 0) (t 0 w) (nI p) K (B 1 p) mc ms u') → w_X5_see G (B 0 0) (t 0 w) (nI p) mc ms u K) →
      (∀ (B : Nat → Nat → Nat) (G : Ctx) (t : Nat → Nat → Nat) (ka : List Nat) (σ : Nat → Nat → Int32) (u : Mem) (K : Int32 → Mem → Prop), S2 B G σ t ka s u → (∀ u', S2 B G σ t ka s1 u' → mI u' 224 (B 0 1) = mI u 224 (B 0 1) → mJ u' (B 0 2) 0 = mJ u (B 0 2) 0 → w_X6_goes_150 G (B 0 1) (nI w) K (nI e) (nI p) u') → w_X6_goes_88 G (B 0 1) (nI w) K (nI e) u) →
      ∃ (s' : Nat → Nat → Int32) (m' x : Nat), x ≤ 1 ∧ m ≤ m' ∧ m' ≤ 300 ∧ Iw s' n m' ∧ s' 2 0 = s 2 0 ∧
    (∀ (B : Nat → Nat → Nat) (G : Ctx) (t : Nat → Nat → Nat) (ka : List Nat) (σ : Nat → Nat → Int32) (u : Mem) (mc ms : Nat) (K : Int32 → Mem → Prop), S2 B G s t ka σ u → t 3 0 = n → t 3 1 = m → ka = kf s m → 3 * (m' - m) ≤ mc → 1000 * (m' - m) ≤ ms → (∀ t' u', S2 B G s' t' (kf s' m') σ u' → t' 3 0 = n → t' 3 1 = m' → (∀ w, t' 0 w = t 0 w) → K (nI x) u') → w_X5_see G (B 0 0) (t 0 w) (nI p) mc ms u (fun u61 => w_X5_endIfThere G (t 0 w) (B 3 e) u61 K)) ∧
    (∀ (B : Nat → Nat → Nat) (G : Ctx) (t : Nat → Nat → Nat) (ka : List Nat) (σ : Nat → Nat → Int32) (u : Mem) (K : Int32 → Mem → Prop), S2 B G σ t ka s u → (∀ u', S2 B G σ t ka s' u' → mI u' 224 (B 0 1) = mI u 224 (B 0 1) → mJ u' (B 0 2) 0 = mJ u (B 0 2) 0 → K (nI x) u') → w_X6_goes_88 G (B 0 1) (nI w) K (nI e) u) := by
    intro s1 hW1 hk1 hz1 y14 y7 hC hR
    obtain ⟨s', m', x, hx, h1, h2, hW2, hz, hc, hr⟩ := seeEnd hW1 hw he y14 y7 hp
    refine ⟨s', m', x, hx, h1, h2, hW2, hz.trans hz1, fun B G t ka σ u mc ms K h n0 n1 ek q1 q2 hK => ?_, fun B G t ka σ u K h hK => ?_⟩
    · exact hC B G t ka σ u mc ms _ h n0 (fun u' hS => hc B G t ka σ u' mc ms K hS n0 n1 (hk1 ▸ ek) q1 q2 hK)
    · exact hR B G t ka σ u K h (fun u' hS g1 g2 => hr B G t ka σ u' K hS (fun u2 hS2 g3 g4 => hK u2 hS2 (g3.trans g1) (g4.trans g2)))
  rw [z7]
  have iff1 : (nI pp < nI cc) ↔ pp < cc := nI_ltI (by omega) (by omega)
  by_cases hlt : pp < cc
  · refine key (up2 s 15 w (s 15 w + 1)) (Iw_st (I_15 hW w _ hw) (kf_cong m rfl (fun j => rfl))) (kf_cong m rfl (fun j => rfl)) rfl z14 z7 (fun B G t ka σ u mc ms K h n0 hK => ?_) (fun B G t ka σ u K h hK => ?_)
    · have hw' : w < t 3 0 := by omega
      refine ⟨(fd h).1, c_str h hp ⟨fun z => (by cases z), fun a3 h3 => ?_⟩⟩
      have h3 := (Option.some.inj h3).symm
      subst h3
      have g := fs h hp
      have gw := fw h hw'
      refine ⟨g.2.1, g.2.1, ?_⟩
      rw [g.2.2.1, g.2.2.2.1, e3, e4, iff1]
      refine ⟨fun _ => ⟨gw.1, gw.1, fun u5 h5 => ?_⟩, fun z => absurd hlt z⟩
      rw [h5, gw.2.2.2.2.2.2.1]
      exact hK _ (S_wdark h hw' _)
    · have r13 := fr h (k := 13) (by unfold ak; omega)
      have r7 := fr h (k := 7) (by unfold ak; omega)
      have r3 := fr h (k := 3) (by unfold ak; omega)
      have r4 := fr h (k := 4) (by unfold ak; omega)
      have r15 := fr h (k := 15) (by unfold ak; omega)
      have f1 := (fm h).1
      refine ⟨f1, fun r hr => ⟨_, hr.trans r13.1, r13.2.1, by rw [r13.2.2]; exact wv, ?_⟩⟩
      rw [cl, fa h (k := 13) (i := w) (by unfold ak; omega) (by show w < 60; omega), z13]
      refine ⟨fun _ => ⟨f1, fun r hr => ⟨_, hr.trans r7.1, r7.2.1, by rw [r7.2.2]; exact ve, f1, ?_⟩⟩, fun z => absurd rfl z⟩
      rw [ce, fa h (k := 7) (i := e) (by unfold ak; omega) he, z7]
      refine fun r hr => ⟨_, hr.trans r3.1, r3.2.1, by rw [r3.2.2]; exact vp, f1, fun r hr => ⟨_, hr.trans r4.1, r4.2.1, by rw [r4.2.2]; exact vp, ?_⟩⟩
      rw [cp, fa h (k := 3) (i := p) (by unfold ak; omega) hp, fa h (k := 4) (i := p) (by unfold ak; omega) hp, e3, e4, iff1]
      refine ⟨fun _ => ⟨f1, fun r hr => ⟨_, hr.trans r15.1, r15.2.1, by rw [r15.2.2]; exact wv, r15.2.1, by rw [r15.2.2]; exact wv, fun u2 h2 => ?_⟩⟩, fun z => absurd hlt z⟩
      rw [fa h (k := 15) (i := w) (by unfold ak; omega) (by show w < 60; omega)] at h2
      rw [h2]
      exact hK _ (S_mrow h (k0 := 15) (i := w) (by unfold ak; omega) (by show w < 60; omega) _) rfl rfl
  · refine key (up2 s 3 p (nI (pp - cc))) (Iw_st (I_3 hW p _ ⟨pp - cc, by omega, rfl⟩) (kf_cong m rfl (fun j => rfl))) (kf_cong m rfl (fun j => rfl)) rfl z14 z7 (fun B G t ka σ u mc ms K h n0 hK => ?_) (fun B G t ka σ u K h hK => ?_)
    · refine ⟨(fd h).1, c_str h hp ⟨fun z => (by cases z), fun a3 h3 => ?_⟩⟩
      have h3 := (Option.some.inj h3).symm
      subst h3
      have g := fs h hp
      refine ⟨g.2.1, g.2.1, ?_⟩
      rw [g.2.2.1, g.2.2.2.1, e3, e4, iff1]
      refine ⟨fun z => absurd z hlt, fun _ => ⟨g.2.1, g.2.1, g.2.1, fun u5 h5 => ?_⟩⟩
      rw [h5, pk_sub (by omega)]
      exact hK _ (S_purse h hp _)
    · have r13 := fr h (k := 13) (by unfold ak; omega)
      have r7 := fr h (k := 7) (by unfold ak; omega)
      have r3 := fr h (k := 3) (by unfold ak; omega)
      have r4 := fr h (k := 4) (by unfold ak; omega)
      have f1 := (fm h).1
      refine ⟨f1, fun r hr => ⟨_, hr.trans r13.1, r13.2.1, by rw [r13.2.2]; exact wv, ?_⟩⟩
      rw [cl, fa h (k := 13) (i := w) (by unfold ak; omega) (by show w < 60; omega), z13]
      refine ⟨fun _ => ⟨f1, fun r hr => ⟨_, hr.trans r7.1, r7.2.1, by rw [r7.2.2]; exact ve, f1, ?_⟩⟩, fun z => absurd rfl z⟩
      rw [ce, fa h (k := 7) (i := e) (by unfold ak; omega) he, z7]
      refine fun r hr => ⟨_, hr.trans r3.1, r3.2.1, by rw [r3.2.2]; exact vp, f1, fun r hr => ⟨_, hr.trans r4.1, r4.2.1, by rw [r4.2.2]; exact vp, ?_⟩⟩
      rw [cp, fa h (k := 3) (i := p) (by unfold ak; omega) hp, fa h (k := 4) (i := p) (by unfold ak; omega) hp, e3, e4, iff1]
      refine ⟨fun z => absurd z hlt, fun _ => ⟨f1, fun r hr => ⟨_, hr.trans r3.1, r3.2.1, by rw [r3.2.2]; exact vp, f1, fun r hr => ⟨_, hr.trans r4.1, r4.2.1, by rw [r4.2.2]; exact vp, r3.2.1, by rw [r3.2.2]; exact vp, fun u2 h2 => ?_⟩⟩⟩⟩
      rw [fa h (k := 3) (i := p) (by unfold ak; omega) hp, fa h (k := 4) (i := p) (by unfold ak; omega) hp, e3, e4, pk_sub (by omega)] at h2
      rw [h2]
      exact hK _ (S_mrow h (k0 := 3) (i := p) (by unfold ak; omega) hp _) rfl rfl
end S2P
