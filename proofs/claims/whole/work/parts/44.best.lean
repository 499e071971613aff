section S2P
variable {B : Nat → Nat → Nat} {G : Ctx} {s s2 : Nat → Nat → Int32} {t : Nat → Nat → Nat} {ka : List Nat} {u : Mem}
def dn (s : Nat → Nat → Int32) (w e : Nat) : Nat := dst (s 7 e).toNatClampNeg (s 11 w).toNatClampNeg
def bet (s : Nat → Nat → Int32) (w e b : Nat) : Prop := dn s w e < dn s w b ∨ (dn s w e = dn s w b ∧ s 8 b < s 8 e)
theorem nbet {s : Nat → Nat → Int32} {w e b : Nat} (h : ¬ bet s w e b) : ¬ dn s w e < dn s w b ∧ (dn s w e = dn s w b → s 8 e ≤ s 8 b) := ⟨fun z => h (.inl z), fun z => Int32.not_lt.mp (fun y => h (.inr ⟨z, y⟩))⟩
theorem dnv {n m w e : Nat} (hW : Iw s n m) (hw : w < n) (he : e < 4) : ∃ a f, a < 8 ∧ f < 8 ∧ s 7 e = nI a ∧ s 11 w = nI f ∧ dn s w e = dst a f ∧ dn s w e < 5 := by
  obtain ⟨a, ha, z7⟩ := hW.2.2.2.2.1 e he
  obtain ⟨f, d, hf, hd, e11, e12⟩ := hW.2.2.2.2.2.2.1 w hw
  have e1 : dn s w e = dst a f := by unfold dn; rw [z7, e11, nI_clamp (by omega), nI_clamp (by omega)]
  exact ⟨a, f, ha, hf, z7, e11, e1, by rw [e1]; exact dst_lt a ha f hf⟩
theorem c_bet {n m w e b : Nat} (hW : Iw s n m) (hw : w < n) (he : e < 4) (hb : b < 4) (h : S2 B G s t ka s2 u) {K : Int32 → Mem → Prop} (hY : bet s w e b → K 1 u) (hN : ¬ bet s w e b → K 0 u) : w_X5_isBetter G (B 3 e) (B 3 b) (s 11 w) u K := by
  obtain ⟨a, f, ha, hf, z7, z11, d1, d2⟩ := dnv hW hw he
  obtain ⟨a', f', ha', hf', z7', z11', d1', d2'⟩ := dnv hW hw hb
  have ef : f' = f := by
    have := z11.symm.trans z11'
    exact ((nI_eq (by omega) (by omega)).mp this).symm
  subst ef
  have ge := fe h he
  have gb := fe h hb
  refine ⟨ge.2.1, ?_⟩
  rw [ge.2.2.2.1, z7, z11]
  refine c_dist ha hf ⟨gb.2.1, ?_⟩
  rw [gb.2.2.2.1, z7']
  refine c_dist ha' hf ?_
  rw [← d1, ← d1', nI_ltI (by omega) (by omega), nI_eq (by omega) (by omega)]
  refine ⟨fun z => ⟨.inr rfl, hY (.inl z)⟩, fun z => ⟨fun z2 => ⟨ge.2.1, gb.2.1, ?_⟩, fun z2 => ⟨.inl rfl, hN (fun y => ?_)⟩⟩⟩
  · rw [ge.2.2.2.2.1, gb.2.2.2.2.1]
    refine ⟨fun z3 => ⟨.inl rfl, hN (fun y => ?_)⟩, fun z3 => ⟨.inr rfl, hY (.inr ⟨z2, Int32.not_le.mp z3⟩)⟩⟩
    rcases y with y | ⟨_, y⟩
    · exact z y
    · exact absurd z3 (Int32.not_le.mpr y)
  · rcases y with y | ⟨y, _⟩
    · exact z y
    · exact z2 y
def bi (b : Option Nat) : Int32 := match b with | none => -1 | some b => nI b
/-- the escorts from e on: class and reference choose the same -/
theorem best1 {n m w : Nat} (hW : Iw s n m) (hw : w < n) : ∀ (d e : Nat) (b : Option Nat), e + d = 4 → (∀ k, b = some k → k < 4) → ∃ b' : Option Nat, (∀ k, b' = some k → k < 4) ∧ (b' = none → b = none ∧ ∀ k, e ≤ k → k < 4 → ¬ s 9 k = 0) ∧
    (∀ (B : Nat → Nat → Nat) (G : Ctx) (t : Nat → Nat → Nat) (ka : List Nat) (σ : Nat → Nat → Int32) (u : Mem) (K : Option Nat → Mem → Prop), S2 B G s t ka σ u → K (b'.map (B 3)) u → w_X5_bestFreeEscort_4 G (B 0 0) (s 11 w) K (d + 1) (b.map (B 3)) (nI e) u) ∧
    (∀ (B : Nat → Nat → Nat) (G : Ctx) (t : Nat → Nat → Nat) (ka : List Nat) (σ : Nat → Nat → Int32) (u : Mem) (K : Mem → Prop), S2 B G σ t ka s u → (b' = none → K u) → (∀ k, b' = some k → ∀ u', S2 B G σ t ka (up2 (up2 (up2 s 14 w (nI k)) 13 w 1) 9 k 1) u' → mI u' 224 (B 0 1) = mI u 224 (B 0 1) → mJ u' (B 0 2) 0 = mJ u (B 0 2) 0 → K u') → w_X6_sends_4 G (B 0 1) (nI w) K (d + 1) (bi b) (nI e) u) := by
  intro d
  have hn : n ≤ 60 := hW.1.1
  have wv := vp_in_nI (n := w) (N := 60) (by omega) (by decide)
  have cl := nIc (i := w) (N := 60) (by omega) (by decide)
  have mone : ∀ k, k < 4 → ¬ (nI k = -1) := fun k hk y => absurd (y ▸ nI_pos (n := k) (by omega)) (by decide)
  induction d with
  | zero =>
    intro e b he hb
    have e4 : e = 4 := by omega
    subst e4
    refine ⟨b, hb, fun z => ⟨z, fun k k1 k2 => absurd k1 (by omega)⟩, fun B G t ka σ u K h hK => ?_, fun B G t ka σ u K h hN hY => ?_⟩
    · obtain ⟨f1, f2, f3, f4, f5, f6, f7, f8, f9, f10, f11, f12, f13, f14, f15, f16, f17, f18, f19, f20, f21, f22⟩ := fd h
      rw [wS_X5_bestFreeEscort_4]
      refine ⟨f1, fun r hr => ⟨_, hr.trans f3, f10, ?_⟩⟩
      rw [f11]
      exact ⟨fun _ => hK, fun z => absurd (by decide) z⟩
    · rw [wS_X6_sends_4]
      refine ⟨fun _ => ?_, fun z => absurd (by decide) z⟩
      cases b with
      | none => exact ⟨fun _ => hN rfl, fun z => absurd rfl z⟩
      | some k =>
        have hk := hb k rfl
        have ck := nIc (i := k) (N := 4) hk (by decide)
        have vk := vp_in_nI (n := k) (N := 4) hk (by decide)
        have r14 := fr h (k := 14) (by unfold ak; omega)
        refine ⟨fun z => absurd z (mone k hk), fun _ => ⟨(fm h).1, fun r hr => ⟨_, hr.trans r14.1, r14.2.1, by rw [r14.2.2]; exact wv, fun u1 h1 => ?_⟩⟩⟩
        have hS := S_mrow h (k0 := 14) (i := w) (by unfold ak; omega) (by show w < 60; omega) (nI k)
        rw [cl] at h1
        have g1 : mI u1 224 (B 0 1) = mI u 224 (B 0 1) := by rw [h1, gI_setA]
        have g2 : mJ u1 (B 0 2) 0 = mJ u (B 0 2) 0 := by rw [h1, gJ_setA]
        rw [← show u1 = setA u (B 4 14) w (nI k) from h1] at hS
        clear h1
        have r13 := fr hS (k := 13) (by unfold ak; omega)
        refine ⟨(fm hS).1, fun r hr => ⟨_, hr.trans r13.1, r13.2.1, by rw [r13.2.2]; exact wv, fun u2 h2 => ?_⟩⟩
        have hS2 := S_mrow hS (k0 := 13) (i := w) (by unfold ak; omega) (by show w < 60; omega) 1
        rw [cl] at h2
        have g3 : mI u2 224 (B 0 1) = mI u 224 (B 0 1) := by rw [h2, gI_setA]; exact g1
        have g4 : mJ u2 (B 0 2) 0 = mJ u (B 0 2) 0 := by rw [h2, gJ_setA]; exact g2
        rw [← h2] at hS2
        clear h2
        have r9 := fr hS2 (k := 9) (by unfold ak; omega)
        refine ⟨(fm hS2).1, fun r hr => ⟨_, hr.trans r9.1, r9.2.1, by rw [r9.2.2]; exact vk, .inr rfl, fun u3 h3 => ?_⟩⟩
        have h3 : u3 = setA u2 (B 4 9) (nI k).toNatClampNeg 1 := h3
        rw [ck] at h3
        rw [h3]
        exact hY k rfl _ (S_mrow hS2 (k0 := 9) (i := k) (by unfold ak; omega) hk 1) (by rw [gI_setA]; exact g3) (by rw [gJ_setA]; exact g4)
  | succ d ih =>
    intro e b hed hb
    have he : e < 4 := by omega
    have ce := nIc (i := e) (N := 4) he (by decide)
    have ve := vp_in_nI (n := e) (N := 4) he (by decide)
    have n4 : ¬ ((4 : Int32) ≤ nI e) := nI_ge (a := e) (b := 4) he (by omega)
    obtain ⟨a, f, ha, hf, z7, z11, d1, d2⟩ := dnv hW hw he
    -- the next turn with b1
    have turn : ∀ b1 : Option Nat, (b1 = b ∨ b1 = some e) → (b1 = none → ¬ s 9 e = 0) →
        (∀ (B : Nat → Nat → Nat) (G : Ctx) (t : Nat → Nat → Nat) (ka : List Nat) (σ : Nat → Nat → Int32) (u : Mem) (J : Option Nat → Int32 → Mem → Prop) (K : Option Nat → Mem → Prop), S2 B G s t ka σ u → J (b1.map (B 3)) (nI e + 1) u → b_X5_bestFreeEscort_4 G (B 0 0) (s 11 w) K J (b.map (B 3)) (nI e) u) →
        (∀ (B : Nat → Nat → Nat) (G : Ctx) (t : Nat → Nat → Nat) (ka : List Nat) (σ : Nat → Nat → Int32) (u : Mem) (J : Int32 → Int32 → Mem → Prop) (K : Mem → Prop), S2 B G σ t ka s u → J (bi b1) (nI e + 1) u → b_X6_sends_4 G (B 0 1) (nI w) K J (bi b) (nI e) u) →
        ∃ b' : Option Nat, (∀ k, b' = some k → k < 4) ∧ (b' = none → b = none ∧ ∀ k, e ≤ k → k < 4 → ¬ s 9 k = 0) ∧
    (∀ (B : Nat → Nat → Nat) (G : Ctx) (t : Nat → Nat → Nat) (ka : List Nat) (σ : Nat → Nat → Int32) (u : Mem) (K : Option Nat → Mem → Prop), S2 B G s t ka σ u → K (b'.map (B 3)) u → w_X5_bestFreeEscort_4 G (B 0 0) (s 11 w) K (d + 1 + 1) (b.map (B 3)) (nI e) u) ∧
    (∀ (B : Nat → Nat → Nat) (G : Ctx) (t : Nat → Nat → Nat) (ka : List Nat) (σ : Nat → Nat → Int32) (u : Mem) (K : Mem → Prop), S2 B G σ t ka s u → (b' = none → K u) → (∀ k, b' = some k → ∀ u', S2 B G σ t ka (up2 (up2 (up2 s 14 w (nI k)) 13 w 1) 9 k 1) u' → mI u' 224 (B 0 1) = mI u 224 (B 0 1) → mJ u' (B 0 2) 0 = mJ u (B 0 2) 0 → K u') → w_X6_sends_4 G (B 0 1) (nI w) K (d + 1 + 1) (bi b) (nI e) u) := by
      intro b1 hb1 hb1n hC hR
      obtain ⟨b', p1, p2, p3, p4⟩ := ih (e + 1) b1 (by omega) (fun k hk => by
        rcases hb1 with y | y
        · exact hb k (by rw [← y]; exact hk)
        · rw [y] at hk; cases hk; exact he)
      refine ⟨b', p1, fun z => ?_, fun B G t ka σ u K h hK => ?_, fun B G t ka σ u K h hN hY => ?_⟩
      · obtain ⟨y1, y2⟩ := p2 z
        refine ⟨?_, fun k k1 k2 => ?_⟩
        · rcases hb1 with y | y
          · rw [← y]; exact y1
          · rw [y] at y1; cases y1
        · rcases Nat.eq_or_lt_of_le k1 with y | y
          · rw [← y]; exact hb1n y1
          · exact y2 k (by omega) k2
      · rw [wS_X5_bestFreeEscort_4]
        refine hC B G t ka σ u _ K h ?_
        rw [nI_1]
        exact p3 B G t ka σ u K h hK
      · rw [wS_X6_sends_4]
        refine hR B G t ka σ u _ K h ?_
        rw [nI_1]
        exact p4 B G t ka σ u K h hN hY
    -- the class up to the escort
    have cpre : ∀ (B : Nat → Nat → Nat) (G : Ctx) (t : Nat → Nat → Nat) (ka : List Nat) (σ : Nat → Nat → Int32) (u : Mem) (J : Option Nat → Int32 → Mem → Prop) (K : Option Nat → Mem → Prop), S2 B G s t ka σ u → (¬ s 9 e = 0 → J (b.map (B 3)) (nI e + 1) u) → (s 9 e = 0 → b = none → J (some (B 3 e)) (nI e + 1) u) → (s 9 e = 0 → ∀ k, b = some k → w_X5_isBetter G (B 3 e) (B 3 k) (s 11 w) u (fun r35 u34 => ((r35 = 0 → (w_X5_bestFreeEscort_51 G (B 0 0) (s 11 w) K J (some (B 3 k)) (nI e) u34)) ∧ (¬ r35 = 0 → (w_X5_bestFreeEscort_48 G (B 0 0) (s 11 w) K J (nI e) (B 3 e) u34))))) → b_X5_bestFreeEscort_4 G (B 0 0) (s 11 w) K J (b.map (B 3)) (nI e) u := by
      intro B G t ka σ u J K h q1 q2 q3
      obtain ⟨f1, f2, f3, f4, f5, f6, f7, f8, f9, f10, f11, f12, f13, f14, f15, f16, f17, f18, f19, f20, f21, f22⟩ := fd h
      have ge := fe h he
      refine ⟨f1, fun r hr => ⟨_, hr.trans f3, f10, ?_⟩⟩
      rw [f11]
      refine ⟨fun z => absurd z n4, fun _ => ⟨f1, fun r hr => ⟨_, hr.trans f3, f10, by rw [f11]; exact ve, ?_⟩⟩⟩
      rw [ce, ge.1]
      refine fun r30 hr30 => ⟨fun z => (by rw [z] at hr30; cases hr30), fun a31 h31 => ?_⟩
      rw [h31] at hr30
      have ha31 := Option.some.inj hr30
      subst ha31
      refine ⟨ge.2.1, ?_⟩
      rw [ge.2.2.2.2.2]
      by_cases hz : s 9 e = 0
      · rw [if_pos hz]
        refine ⟨fun z => absurd z (by decide), fun _ => ⟨fun z => ?_, fun a33 h33 => ?_⟩⟩
        · exact q2 hz (by cases b with | none => rfl | some k => cases z)
        · cases hb2 : b with
          | none => rw [hb2] at h33; cases h33
          | some k =>
            rw [hb2] at h33
            have h33 := Option.some.inj h33
            subst h33
            exact q3 hz k hb2
      · rw [if_neg hz]
        exact ⟨fun _ => q1 hz, fun z => absurd rfl z⟩
    -- the reference up to the choice
    have rpre : ∀ (B : Nat → Nat → Nat) (G : Ctx) (t : Nat → Nat → Nat) (ka : List Nat) (σ : Nat → Nat → Int32) (u : Mem) (J : Int32 → Int32 → Mem → Prop) (K : Mem → Prop), S2 B G σ t ka s u → (b = none → w_X6_sends_51 G (B 0 1) (nI w) K J (-1) (nI e) (nI (dn s w e)) 8 u) → (∀ k, b = some k → w_X6_sends_51 G (B 0 1) (nI w) K J (nI k) (nI e) (nI (dn s w e)) (nI (dn s w k)) u) → b_X6_sends_4 G (B 0 1) (nI w) K J (bi b) (nI e) u := by
      intro B G t ka σ u J K h q1 q2
      have f1 := (fm h).1
      have r7 := fr h (k := 7) (by unfold ak; omega)
      have r11 := fr h (k := 11) (by unfold ak; omega)
      refine ⟨fun z => absurd z n4, fun _ => ⟨f1, fun r hr => ⟨_, hr.trans r7.1, r7.2.1, by rw [r7.2.2]; exact ve, f1, fun r hr => ⟨_, hr.trans r11.1, r11.2.1, by rw [r11.2.2]; exact wv, ?_⟩⟩⟩⟩
      rw [ce, cl, fa h (k := 7) (i := e) (by unfold ak; omega) he, fa h (k := 11) (i := w) (by unfold ak; omega) (by show w < 60; omega), z7, z11]
      refine m_len ha hf ?_
      rw [← d1]
      cases hb2 : b with
      | none => exact ⟨fun _ => q1 hb2, fun z => absurd rfl z⟩
      | some k =>
        have hk := hb k hb2
        obtain ⟨a', f', ha', hf', z7', z11', d1', d2'⟩ := dnv hW hw hk
        have ck := nIc (i := k) (N := 4) hk (by decide)
        have vk := vp_in_nI (n := k) (N := 4) hk (by decide)
        rw [show bi (some k) = nI k from rfl]
        refine ⟨fun z => absurd z (mone k hk), fun _ => ⟨f1, fun r hr => ⟨_, hr.trans r7.1, r7.2.1, by rw [r7.2.2]; exact vk, f1, fun r hr => ⟨_, hr.trans r11.1, r11.2.1, by rw [r11.2.2]; exact wv, ?_⟩⟩⟩⟩
        rw [ck, fa h (k := 7) (i := k) (by unfold ak; omega) hk, fa h (k := 11) (i := w) (by unfold ak; omega) (by show w < 60; omega), z7', z11']
        refine m_len ha' hf' ?_
        rw [← d1']
        exact q2 k hb2
    -- 92: the one of them that is free
    have r92 : ∀ (B : Nat → Nat → Nat) (G : Ctx) (t : Nat → Nat → Nat) (ka : List Nat) (σ : Nat → Nat → Int32) (u : Mem) (J : Int32 → Int32 → Mem → Prop) (K : Mem → Prop) (y s0 : Int32), S2 B G σ t ka s u → (s 9 e = 0 → ¬ s0 = 0 → J (nI e) (nI e + 1) u) → (¬ (s 9 e = 0 ∧ ¬ s0 = 0) → J y (nI e + 1) u) → w_X6_sends_92 G (B 0 1) (nI w) K J y (nI e) s0 u := by
      intro B G t ka σ u J K y s0 h q1 q2
      have r9 := fr h (k := 9) (by unfold ak; omega)
      refine ⟨(fm h).1, fun r hr => ⟨_, hr.trans r9.1, r9.2.1, by rw [r9.2.2]; exact ve, ?_⟩⟩
      rw [ce, fa h (k := 9) (i := e) (by unfold ak; omega) he]
      exact ⟨fun z => ⟨fun z2 => q2 (fun x => x.2 z2), fun z2 => q1 z z2⟩, fun z => q2 (fun x => z x.1)⟩
    by_cases hz : s 9 e = 0
    · cases hb2 : b with
      | none =>
        subst hb2
        refine turn (some e) (.inr rfl) (fun z => by cases z) (fun B G t ka σ u J K h hJ => cpre B G t ka σ u J K h (fun z => absurd hz z) (fun _ _ => hJ) (fun _ k hk => by cases hk)) (fun B G t ka σ u J K h hJ => rpre B G t ka σ u J K h (fun _ => ?_) (fun k hk => by cases hk))
        exact ⟨fun _ => r92 B G t ka σ u J K (-1) 1 h (fun _ _ => hJ) (fun y => absurd ⟨hz, by decide⟩ y), fun z => absurd rfl z⟩
      | some k =>
        subst hb2
        have hk := hb k rfl
        obtain ⟨a', f', ha', hf', z7', z11', d1', d2'⟩ := dnv hW hw hk
        have ck := nIc (i := k) (N := 4) hk (by decide)
        have vk := vp_in_nI (n := k) (N := 4) hk (by decide)
        have i1 : (nI (dn s w e) < nI (dn s w k)) ↔ dn s w e < dn s w k := nI_ltI (by omega) (by omega)
        have i2 : (nI (dn s w e) = nI (dn s w k)) ↔ dn s w e = dn s w k := nI_eq (by omega) (by omega)
        have r51 : ∀ (B : Nat → Nat → Nat) (G : Ctx) (t : Nat → Nat → Nat) (ka : List Nat) (σ : Nat → Nat → Int32) (u : Mem) (J : Int32 → Int32 → Mem → Prop) (K : Mem → Prop), S2 B G σ t ka s u → (bet s w e k → J (nI e) (nI e + 1) u) → (¬ bet s w e k → J (nI k) (nI e + 1) u) → w_X6_sends_51 G (B 0 1) (nI w) K J (nI k) (nI e) (nI (dn s w e)) (nI (dn s w k)) u := by
          intro B G t ka σ u J K h q1 q2
          have y87 : bet s w e k → w_X6_sends_87 G (B 0 1) (nI w) K J (nI k) (nI e) u := fun y => r92 B G t ka σ u J K (nI k) 1 h (fun _ _ => q1 y) (fun x => absurd ⟨hz, by decide⟩ x)
          have y91 : ¬ bet s w e k → w_X6_sends_91 G (B 0 1) (nI w) K J (nI k) (nI e) u := fun y => r92 B G t ka σ u J K (nI k) 0 h (fun _ x => absurd rfl x) (fun _ => q2 y)
          have r8 := fr h (k := 8) (by unfold ak; omega)
          unfold w_X6_sends_51
          rw [i1, i2]
          refine ⟨fun z => absurd z (mone k hk), fun _ => ⟨fun z => y87 (.inl z), fun z => ⟨fun z2 => ⟨(fm h).1, fun r hr => ⟨_, hr.trans r8.1, r8.2.1, by rw [r8.2.2]; exact ve, (fm h).1, fun r hr => ⟨_, hr.trans r8.1, r8.2.1, by rw [r8.2.2]; exact vk, ?_⟩⟩⟩, fun z2 => y91 (fun y => ?_)⟩⟩⟩
          · rw [ce, ck, fa h (k := 8) (i := e) (by unfold ak; omega) he, fa h (k := 8) (i := k) (by unfold ak; omega) hk]
            refine ⟨fun z3 => y91 (fun y => ?_), fun z3 => y87 (.inr ⟨z2, Int32.not_le.mp z3⟩)⟩
            rcases y with y | ⟨_, y⟩
            · exact z y
            · exact absurd z3 (Int32.not_le.mpr y)
          · rcases y with y | ⟨y, _⟩
            · exact z y
            · exact z2 y
        by_cases hbt : bet s w e k
        · refine turn (some e) (.inr rfl) (fun z => by cases z) (fun B G t ka σ u J K h hJ => cpre B G t ka σ u J K h (fun z => absurd hz z) (fun _ z => by cases z) (fun _ k' hk' => ?_)) (fun B G t ka σ u J K h hJ => rpre B G t ka σ u J K h (fun z => by cases z) (fun k' hk' => ?_))
          · cases hk'
            exact c_bet hW hw he hk h (fun _ => ⟨fun z => absurd z (by decide), fun _ => hJ⟩) (fun z => absurd hbt z)
          · cases hk'
            exact r51 B G t ka σ u J K h (fun _ => hJ) (fun z => absurd hbt z)
        · refine turn (some k) (.inl rfl) (fun z => by cases z) (fun B G t ka σ u J K h hJ => cpre B G t ka σ u J K h (fun z => absurd hz z) (fun _ z => by cases z) (fun _ k' hk' => ?_)) (fun B G t ka σ u J K h hJ => rpre B G t ka σ u J K h (fun z => by cases z) (fun k' hk' => ?_))
          · cases hk'
            exact c_bet hW hw he hk h (fun z => absurd z hbt) (fun _ => ⟨fun _ => hJ, fun z => absurd rfl z⟩)
          · cases hk'
            exact r51 B G t ka σ u J K h (fun z => absurd z hbt) (fun _ => hJ)
    · refine turn b (.inl rfl) (fun _ => hz) (fun B G t ka σ u J K h hJ => cpre B G t ka σ u J K h (fun _ => hJ) (fun z => absurd z hz) (fun z => absurd z hz)) (fun B G t ka σ u J K h hJ => rpre B G t ka σ u J K h (fun hbn => ?_) (fun k hk => ?_))
      · subst hbn
        exact ⟨fun _ => r92 B G t ka σ u J K (-1) 1 h (fun z => absurd z hz) (fun _ => hJ), fun z => absurd rfl z⟩
      · subst hk
        have hk := hb k rfl
        have ck := nIc (i := k) (N := 4) hk (by decide)
        have vk := vp_in_nI (n := k) (N := 4) hk (by decide)
        have y92 : ∀ s0, w_X6_sends_92 G (B 0 1) (nI w) K J (nI k) (nI e) s0 u := fun s0 => r92 B G t ka σ u J K (nI k) s0 h (fun z => absurd z hz) (fun _ => hJ)
        have r8 := fr h (k := 8) (by unfold ak; omega)
        refine ⟨fun z => absurd z (mone k hk), fun _ => ⟨fun _ => y92 1, fun _ => ⟨fun _ => ⟨(fm h).1, fun r hr => ⟨_, hr.trans r8.1, r8.2.1, by rw [r8.2.2]; exact ve, (fm h).1, fun r hr => ⟨_, hr.trans r8.1, r8.2.1, by rw [r8.2.2]; exact vk, fun _ => y92 0, fun _ => y92 1⟩⟩⟩, fun _ => y92 0⟩⟩⟩
end S2P
