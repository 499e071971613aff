section S2V
variable {B : Nat → Nat → Nat} {G : Ctx} {s z : Nat → Nat → Int32} {t : Nat → Nat → Nat} {ka : List Nat} {u : Mem}
/-- none is free: the law chooses none -/
theorem noFree {n m : Nat} (hW : Iw s n m) (hn8 : n ≤ 8) (hf : ∀ k, k < 4 → ¬ s 9 k = 0) : ∀ d i, i + d = n → (∀ (B : Nat → Nat → Nat) (G : Ctx) (t : Nat → Nat → Nat) (ka : List Nat) (σ z : Nat → Nat → Int32) (u : Mem) (v0 v7 v8 : Int32) (K : Int32 → Mem → Prop) (J6 : Int32 → Int32 → Mem → Prop), S2 B G σ t ka z u → Rel s n m z → (∀ z' u', S2 B G σ t ka z' u' → Rel s n m z' → ∃ N, w_L_minutes_52 G v0 (B 4 1) (B 4 2) (B 4 3) (B 4 4) (B 4 5) (B 4 0) K J6 N v7 v8 0 u') → w_L_minutes_15 G v0 (B 4 1) (B 4 2) (B 4 3) (B 4 4) (B 4 5) (B 4 0) K J6 (d + 1) v7 v8 (nI i) u) := by
  intro d
  induction d with
  | zero =>
    intro i hi B G t ka σ z u v0 v7 v8 K J6 h hR hK
    have e : nI n ≤ nI i := by rw [nI_leI (by omega) (by omega)]; omega
    obtain ⟨o1, o2, o3⟩ := rd h 0 2 (by omega) (x := 2) rfl (by decide)
    rw [hR.1.2.2.1] at o3
    rw [wS_L_minutes_15]
    refine ⟨o1, o2, ?_⟩
    rw [o3]
    exact ⟨fun _ => hK z u h hR, fun y => absurd e y⟩
  | succ d ih =>
    intro i hi B G t ka σ z u v0 v7 v8 K J6 h hR hK
    have hi2 : i < n := by omega
    have lpre : ∀ (B : Nat → Nat → Nat) (G : Ctx) (t : Nat → Nat → Nat) (ka : List Nat) (σ z : Nat → Nat → Int32) (u : Mem) (v0 v7 v8 : Int32) (K : Int32 → Mem → Prop) (J6 : Int32 → Int32 → Mem → Prop) (J : Int32 → Int32 → Int32 → Mem → Prop), S2 B G σ t ka z u → Rel s n m z → (¬ s 13 i = 0 → J v7 v8 (nI i + 1) u) → (s 13 i = 0 → w_L_sends G (nI i) (B 4 2) (B 4 3) u (fun u36 => (w_L_minutes_43 G v0 (B 4 1) (B 4 2) (B 4 3) (B 4 4) (B 4 5) (B 4 0) K J6 J v7 v8 (nI i) u36))) → b_L_minutes_15 G v0 (B 4 1) (B 4 2) (B 4 3) (B 4 4) (B 4 5) (B 4 0) K J6 J v7 v8 (nI i) u := by
      intro B G t ka σ z u v0 v7 v8 K J6 J h hR q1 q2
      obtain ⟨o1, o2, o3⟩ := rd h 0 2 (by omega) (x := 2) rfl (by decide)
      rw [hR.1.2.2.1] at o3
      obtain ⟨c1, c2, c3⟩ := rd h 3 (6 * i + 2) (by omega) (j62 i) (by show 6 * i + 2 < 48; omega)
      rw [(hR.2.2.2.1 i hi2).2.2.1] at c3
      refine ⟨o1, o2, ?_⟩
      rw [o3]
      refine ⟨fun y => absurd y (nle hi2 (by omega)), fun _ => ⟨c1, c2, ?_⟩⟩
      rw [c3]
      exact ⟨fun y => q2 y, fun y => q1 y⟩
    have nxt : ∀ z' u', S2 B G σ t ka z' u' → Rel s n m z' → w_L_minutes_15 G v0 (B 4 1) (B 4 2) (B 4 3) (B 4 4) (B 4 5) (B 4 0) K J6 (d + 1) v7 v8 (nI i + 1) u' := fun z' u' h' hR' => by
      rw [nI_1]
      exact ih (i + 1) (by omega) B G t ka σ z' u' v0 v7 v8 K J6 h' hR' hK
    rw [wS_L_minutes_15]
    refine lpre B G t ka σ z u v0 v7 v8 K J6 _ h hR (fun _ => nxt z u h hR) (fun _ => ?_)
    obtain ⟨b', p1, _, p3⟩ := best1 hW hn8 hi2
    refine p3 B G t ka σ z u _ h hR (fun _ => nxt z u h hR) (fun k hk => ?_)
    obtain ⟨_, k4, k9, _⟩ := p1.1 k hk
    exact absurd k9 (hf k k4)
theorem giveAll {n m : Nat} : ∀ (d i : Nat) (s : Nat → Nat → Int32), Iw s n m → Qi s n m → i + d = n → ∃ (s' : Nat → Nat → Int32), Iw s' n m ∧ Qi s' n m ∧ Clk s' s ∧ kf s' m = kf s m ∧
    (∀ (B : Nat → Nat → Nat) (G : Ctx) (t : Nat → Nat → Nat) (ka : List Nat) (σ : Nat → Nat → Int32) (u : Mem) (K : Mem → Prop), S2 B G s t ka σ u → t 3 0 = n → (∀ u', S2 B G s' t ka σ u' → K u') → w_X5_giveEscorts_2 G (B 0 0) K (d + 1) (nI i) u) ∧
    (∀ (B : Nat → Nat → Nat) (G : Ctx) (t : Nat → Nat → Nat) (ka : List Nat) (σ z : Nat → Nat → Int32) (u : Mem) (v0 v7 v8 : Int32) (K : Int32 → Mem → Prop) (J6 : Int32 → Int32 → Mem → Prop), S2 B G σ t ka z u → Rel s n m z → (∀ z' u', S2 B G σ t ka z' u' → Rel s' n m z' → ∃ N, w_L_minutes_52 G v0 (B 4 1) (B 4 2) (B 4 3) (B 4 4) (B 4 5) (B 4 0) K J6 N v7 v8 0 u') → w_L_minutes_15 G v0 (B 4 1) (B 4 2) (B 4 3) (B 4 4) (B 4 5) (B 4 0) K J6 (d + 1) v7 v8 (nI i) u) := by
  intro d
  induction d with
  | zero =>
    intro i s hW hQ hi
    have hn8 : n ≤ 8 := hQ.1.1
    have e : nI n ≤ nI i := by rw [nI_leI (by omega) (by omega)]; omega
    refine ⟨s, hW, hQ, ⟨rfl, rfl⟩, rfl, fun B G t ka σ u K h n0 hK => ?_, fun B G t ka σ z u v0 v7 v8 K J6 h hR hK => ?_⟩
    · obtain ⟨f1, f2, f3, f4, f5, f6, f7, f8, f9, f10, f11, f12, f13, f14, f15, f16, f17, f18, f19, f20, f21, f22⟩ := fd h
      rw [wS_X5_giveEscorts_2]
      refine ⟨f1, fun r hr => ⟨_, hr.trans f4, f15, f15, ?_⟩⟩
      rw [f18, n0]
      exact ⟨fun _ => hK u h, fun y => absurd e y⟩
    · obtain ⟨o1, o2, o3⟩ := rd h 0 2 (by omega) (x := 2) rfl (by decide)
      rw [hR.1.2.2.1] at o3
      rw [wS_L_minutes_15]
      refine ⟨o1, o2, ?_⟩
      rw [o3]
      exact ⟨fun _ => hK z u h hR, fun y => absurd e y⟩
  | succ d ih =>
    intro i s hW hQ hi
    have hn8 : n ≤ 8 := hQ.1.1
    have hi2 : i < n := by omega
    have cpre : ∀ (B : Nat → Nat → Nat) (G : Ctx) (t : Nat → Nat → Nat) (ka : List Nat) (σ : Nat → Nat → Int32) (u : Mem) (K : Mem → Prop) (J : Int32 → Mem → Prop), S2 B G s t ka σ u → t 3 0 = n → (¬ s 13 i = 0 → J (nI i + 1) u) → (s 13 i = 0 → w_X5_bestFreeEscort G (B 0 0) (s 11 i) u (fun r47 u46 => ((r47 = none → K u46) ∧ (∀ a48 : Nat, r47 = some a48 → (OB u46 a48 2 ∧ (((0 : Int32) = 0 ∨ (0 : Int32) = 1) ∧ (∀ u49 : Mem, u49 = setI u46 67 a48 (0 : Int32) → (OB u49 (t 0 i) 5 ∧ (∀ u50 : Mem, u50 = setR u49 164 (t 0 i) (some a48) → (OB u50 (t 0 i) 5 ∧ (∀ u51 : Mem, u51 = setI u50 163 (t 0 i) (1 : Int32) → (w_X5_giveEscorts_61 G (B 0 0) K J (nI i) u51)))))))))))) → b_X5_giveEscorts_2 G (B 0 0) K J (nI i) u := by
      intro B G t ka σ u K J h n0 q1 q2
      obtain ⟨f1, f2, f3, f4, f5, f6, f7, f8, f9, f10, f11, f12, f13, f14, f15, f16, f17, f18, f19, f20, f21, f22⟩ := fd h
      have hi3 : i < t 3 0 := by omega
      have gw := fw h hi3
      refine ⟨f1, fun r hr => ⟨_, hr.trans f4, f15, f15, ?_⟩⟩
      rw [f18]
      refine ⟨fun y => absurd y (nle hi3 (by omega)), fun _ => ⟨f1, fun r hr => ⟨_, hr.trans f4, f15, ?_⟩⟩⟩
      rw [w_get0 h hi3]
      refine ⟨_, rfl, gw.1, gw.1, ?_⟩
      rw [gw.2.2.2.2.1, gw.2.2.1]
      exact ⟨fun y => ⟨gw.1, f1, q2 y⟩, fun y => q1 y⟩
    have lpre : ∀ (B : Nat → Nat → Nat) (G : Ctx) (t : Nat → Nat → Nat) (ka : List Nat) (σ z : Nat → Nat → Int32) (u : Mem) (v0 v7 v8 : Int32) (K : Int32 → Mem → Prop) (J6 : Int32 → Int32 → Mem → Prop) (J : Int32 → Int32 → Int32 → Mem → Prop), S2 B G σ t ka z u → Rel s n m z → (¬ s 13 i = 0 → J v7 v8 (nI i + 1) u) → (s 13 i = 0 → w_L_sends G (nI i) (B 4 2) (B 4 3) u (fun u36 => (w_L_minutes_43 G v0 (B 4 1) (B 4 2) (B 4 3) (B 4 4) (B 4 5) (B 4 0) K J6 J v7 v8 (nI i) u36))) → b_L_minutes_15 G v0 (B 4 1) (B 4 2) (B 4 3) (B 4 4) (B 4 5) (B 4 0) K J6 J v7 v8 (nI i) u := by
      intro B G t ka σ z u v0 v7 v8 K J6 J h hR q1 q2
      obtain ⟨o1, o2, o3⟩ := rd h 0 2 (by omega) (x := 2) rfl (by decide)
      rw [hR.1.2.2.1] at o3
      obtain ⟨c1, c2, c3⟩ := rd h 3 (6 * i + 2) (by omega) (j62 i) (by show 6 * i + 2 < 48; omega)
      rw [(hR.2.2.2.1 i hi2).2.2.1] at c3
      refine ⟨o1, o2, ?_⟩
      rw [o3]
      refine ⟨fun y => absurd y (nle hi2 (by omega)), fun _ => ⟨c1, c2, ?_⟩⟩
      rw [c3]
      exact ⟨fun y => q2 y, fun y => q1 y⟩
    by_cases h0 : s 13 i = 0
    · obtain ⟨b', p1, p3, p4⟩ := best1 hW hn8 hi2
      cases hb : b' with
      | none =>
        subst hb
        have hf : ∀ k, k < 4 → ¬ s 9 k = 0 := fun k hk => p1.2 rfl k (Nat.zero_le _) hk
        refine ⟨s, hW, hQ, ⟨rfl, rfl⟩, rfl, fun B G t ka σ u K h n0 hK => ?_, fun B G t ka σ z u v0 v7 v8 K J6 h hR hK => noFree hW hn8 hf (d + 1) i hi B G t ka σ z u v0 v7 v8 K J6 h hR hK⟩
        rw [wS_X5_giveEscorts_2]
        exact cpre B G t ka σ u K _ h n0 (fun y => absurd h0 y) (fun _ => p3 B G t ka σ u _ h ⟨fun _ => hK u h, fun a y => by cases y⟩)
      | some e =>
        subst hb
        obtain ⟨_, he, z9, _⟩ := p1.1 e rfl
        obtain ⟨s', hW', hQ', hz, hk', hc, hr⟩ := ih (i + 1) _ (I_send2 hW hi2 he) (Qi_send hQ hi2 he h0 z9) (by omega)
        refine ⟨s', hW', hQ', hz, hk'.trans (kf_cong m rfl (fun j => rfl)), fun B G t ka σ u K h n0 hK => ?_, fun B G t ka σ z u v0 v7 v8 K J6 h hR hK => ?_⟩
        · have hi3 : i < t 3 0 := by omega
          rw [wS_X5_giveEscorts_2]
          refine cpre B G t ka σ u K _ h n0 (fun y => absurd h0 y) (fun _ => p3 B G t ka σ u _ h ⟨fun y => (by cases y), fun a48 h48 => ?_⟩)
          have h48 := (Option.some.inj h48).symm
          subst h48
          have mone : ¬ (nI e = -1) := fun y => absurd (y ▸ nI_pos (n := e) (by omega)) (by decide)
          refine ⟨(fe h he).2.1, .inl rfl, fun u49 h49 => ?_⟩
          have hS := S_ebusy h he 1 0 (by simp)
          rw [← h49] at hS
          refine ⟨(fw hS hi3).1, fun u50 h50 => ?_⟩
          have hS2 := S_wesc hS hi3 (nI e) (some (B 3 e)) (by rw [if_neg mone, nI_clamp (by omega)])
          rw [← h50] at hS2
          refine ⟨(fw hS2 hi3).1, fun u51 h51 => ?_⟩
          have hS3 := S_wstate hS2 hi3 1
          rw [← h51, up3] at hS3
          show w_X5_giveEscorts_2 G (B 0 0) K (d + 1) (nI i + 1) u51
          rw [nI_1]
          exact hc B G t ka σ u51 K hS3 n0 hK
        · rw [wS_L_minutes_15]
          refine lpre B G t ka σ z u v0 v7 v8 K J6 _ h hR (fun y => absurd h0 y) (fun _ => p4 B G t ka σ z u _ h hR (fun y => by cases y) (fun k hk z' u' hS hR' => ?_))
          have hk := Option.some.inj hk
          subst hk
          show w_L_minutes_15 G v0 (B 4 1) (B 4 2) (B 4 3) (B 4 4) (B 4 5) (B 4 0) K J6 (d + 1) v7 v8 (nI i + 1) u'
          rw [nI_1]
          exact hr B G t ka σ z' u' v0 v7 v8 K J6 hS hR' hK
    · obtain ⟨s', hW', hQ', hz, hk', hc, hr⟩ := ih (i + 1) s hW hQ (by omega)
      refine ⟨s', hW', hQ', hz, hk', fun B G t ka σ u K h n0 hK => ?_, fun B G t ka σ z u v0 v7 v8 K J6 h hR hK => ?_⟩
      · rw [wS_X5_giveEscorts_2]
        exact cpre B G t ka σ u K _ h n0 (fun _ => by rw [nI_1]; exact hc B G t ka σ u K h n0 hK) (fun y => absurd y h0)
      · rw [wS_L_minutes_15]
        exact lpre B G t ka σ z u v0 v7 v8 K J6 _ h hR (fun _ => by rw [nI_1]; exact hr B G t ka σ z u v0 v7 v8 K J6 h hR hK) (fun y => absurd y h0)
theorem minutes {n N : Nat} (hN : N ≤ 60) : ∀ (d k : Nat) (s : Nat → Nat → Int32) (m : Nat), Iw s n m → Qi s n m → k + d = N → ∃ (s' : Nat → Nat → Int32) (m' x : Nat), m ≤ m' ∧ m' ≤ 40 ∧ Iw s' n m' ∧ Qi s' n m' ∧ Clk s' s ∧
    (∀ (B : Nat → Nat → Nat) (G : Ctx) (t : Nat → Nat → Nat) (ka : List Nat) (σ : Nat → Nat → Int32) (u : Mem) (mc ms c : Nat) (K : Int32 → Mem → Prop) (X : String → Mem → Prop), S2 B G s t ka σ u → t 3 0 = n → t 3 1 = m → ka = kf s m → 3 * (m' - m) ≤ mc → 1000 * (m' - m) ≤ ms → (∀ t' u', S2 B G (up2 s' 2 0 (s' 2 0 + nI N)) t' (kf s' m') σ u' → t' 3 0 = n → t' 3 1 = m' → K (nI (c + x)) u') → w_X5_pass_47 G (B 0 0) (nI N) K X (d + 1) (nI c) (nI k) mc ms u) ∧
    (∀ (B : Nat → Nat → Nat) (G : Ctx) (t : Nat → Nat → Nat) (ka : List Nat) (σ z : Nat → Nat → Int32) (u : Mem) (c : Nat) (K : Int32 → Mem → Prop), S2 B G σ t ka z u → Rel s n m z → (∀ z' u', S2 B G σ t ka z' u' → Rel (up2 s' 2 0 (s' 2 0 + nI N)) n m' z' → K (nI (c + x)) u') → w_L_minutes_6 G (nI N) (B 4 1) (B 4 2) (B 4 3) (B 4 4) (B 4 5) (B 4 0) K (d + 1) (nI c) (nI k) u) := by
  intro d
  induction d with
  | zero =>
    intro k s m hW hQ hk
    have e : nI N ≤ nI k := by rw [nI_leI (by omega) (by omega)]; omega
    refine ⟨s, m, 0, Nat.le_refl _, Qb_40 hQ.2.2, hW, hQ, ⟨rfl, rfl⟩, fun B G t ka σ u mc ms c K X h n0 n1 ek q1 q2 hK => ?_, fun B G t ka σ z u c K h hR hK => ?_⟩
    · rw [wS_X5_pass_47]
      have f := fd h
      refine ⟨fun _ => ⟨f.1, f.1, fun u2 h2 => ?_⟩, fun y => absurd e y⟩
      have hS := S_minute h (s 2 0 + nI N)
      rw [h2, f.2.2.2.2.2.2.1]
      exact hK t _ (ek ▸ hS) n0 n1
    · obtain ⟨o1, o2, o3⟩ := rd h 0 1 (by omega) (x := 1) rfl (by decide)
      rw [hR.1.2.1] at o3
      rw [wS_L_minutes_6]
      refine ⟨fun _ => ⟨o1, o2, ?_⟩, fun y => absurd e y⟩
      rw [o3]
      exact wr h 0 1 (by omega) rfl (by decide) (fun u1 h1 => hK _ u1 h1 (R_2 hR _))
  | succ d ih =>
    intro k s m hW hQ hk
    have nk : ¬ (nI N ≤ nI k) := nle (by omega) (by omega)
    obtain ⟨s1, hW1, hQ1, hz1, hk1, hc1, hr1⟩ := giveAll n 0 s hW hQ (by omega)
    obtain ⟨s2, m2, x2, hx2, p1, p2, hW2, hQ2, hz2, hc2, hr2⟩ := goAll n 0 s1 m hW1 hQ1 (by omega)
    obtain ⟨s', m', x, h1, h2, hW', hQ', hz', hc, hr⟩ := ih (k + 1) s2 m2 hW2 hQ2 (by omega)
    refine ⟨s', m', x2 + x, by omega, h2, hW', hQ', hz'.trans (hz2.trans hz1), fun B G t ka σ u mc ms c K X h n0 n1 ek q1 q2 hK => ?_, fun B G t ka σ z u c K h hR hK => ?_⟩
    · rw [wS_X5_pass_47]
      refine ⟨fun y => absurd y nk, fun _ => ⟨(fd h).1, n + 1, hc1 B G t ka σ u _ h n0 (fun u1 hS1 => ?_)⟩⟩
      refine ⟨3 * (m2 - m), 1000 * (m2 - m), by omega, by omega, (fd hS1).1, n + 1, ?_⟩
      refine hc2 B G t ka σ u1 _ _ 0 _ hS1 n0 n1 (ek.trans hk1.symm) (Nat.le_refl _) (Nat.le_refl _) (fun t2 u2 hS2 l0 l1 => ?_)
      show w_X5_pass_47 G (B 0 0) (nI N) K X (d + 1) (nI c + nI (0 + x2)) (nI k + 1) _ _ u2
      rw [Nat.zero_add, nI_add, nI_1]
      refine hc B G t2 (kf s2 m2) σ u2 _ _ (c + x2) K X hS2 l0 l1 rfl (by omega) (by omega) (fun t3 u3 hS3 r0 r1 => ?_)
      rw [Nat.add_assoc]
      exact hK t3 u3 hS3 r0 r1
    · rw [wS_L_minutes_6]
      refine ⟨fun y => absurd y nk, fun _ => ⟨n + 1, hr1 B G t ka σ z u (nI N) (nI c) (nI k) K _ h hR (fun z1 u1 hS1 hR1 => ⟨n + 1, ?_⟩)⟩⟩
      refine hr2 B G t ka σ z1 u1 (nI N) (nI k) c K _ hS1 hR1 (fun z2 u2 hS2 hR2 => ?_)
      rw [nI_1]
      refine hr B G t ka σ z2 u2 (c + x2) K hS2 hR2 (fun z3 u3 hS3 hR3 => ?_)
      rw [Nat.add_assoc]
      exact hK z3 u3 hS3 hR3
end S2V
