section S2P
variable {B : Nat → Nat → Nat} {G : Ctx} {s s2 : Nat → Nat → Int32} {t : Nat → Nat → Nat} {ka : List Nat} {u : Mem}
theorem I_send2 {n m w e : Nat} (hW : Iw s n m) (hw : w < n) (he : e < 4) : Iw (up2 (up2 (up2 s 14 w (nI e)) 13 w 1) 9 e 1) n m := Iw_st (I_send hW hw he) (kf_cong m rfl (fun j => rfl))
theorem up3 (s : Nat → Nat → Int32) (w e : Nat) (x : Int32) : up2 (up2 (up2 s 9 e 1) 14 w x) 13 w 1 = up2 (up2 (up2 s 14 w x) 13 w 1) 9 e 1 := by
  rw [up2_comm s 1 x (.inl (by decide)), up2_comm (up2 s 14 w x) 1 1 (.inl (by decide))]
/-- none is free: the reference chooses none -/
theorem r_none (hf : ∀ k, k < 4 → ¬ s 9 k = 0) {n m w : Nat} (hW : Iw s n m) (hw : w < n) : ∀ d e, e + d = 4 → ∀ (B : Nat → Nat → Nat) (G : Ctx) (t : Nat → Nat → Nat) (ka : List Nat) (σ : Nat → Nat → Int32) (u : Mem) (K : Mem → Prop), S2 B G σ t ka s u → K u → w_X6_sends_4 G (B 0 1) (nI w) K (d + 1) (-1) (nI e) u := by
  intro d
  have hn : n ≤ 60 := hW.1.1
  have wv := vp_in_nI (n := w) (N := 60) (by omega) (by decide)
  have cl := nIc (i := w) (N := 60) (by omega) (by decide)
  induction d with
  | zero =>
    intro e he B G t ka σ u K h hK
    have e4 : e = 4 := by omega
    subst e4
    rw [wS_X6_sends_4]
    exact ⟨fun _ => ⟨fun _ => hK, fun z => absurd rfl z⟩, fun z => absurd (by decide) z⟩
  | succ d ih =>
    intro e hed B G t ka σ u K h hK
    have he : e < 4 := by omega
    have ce := nIc (i := e) (N := 4) he (by decide)
    have ve := vp_in_nI (n := e) (N := 4) he (by decide)
    have n4 : ¬ ((4 : Int32) ≤ nI e) := nI_ge (a := e) (b := 4) he (by omega)
    obtain ⟨a, f, ha, hf', z7, z11, d1, d2⟩ := dnv hW hw he
    have f1 := (fm h).1
    have r7 := fr h (k := 7) (by unfold ak; omega)
    have r11 := fr h (k := 11) (by unfold ak; omega)
    have r9 := fr h (k := 9) (by unfold ak; omega)
    rw [wS_X6_sends_4]
    refine ⟨fun z => absurd z n4, fun _ => ⟨f1, fun r hr => ⟨_, hr.trans r7.1, r7.2.1, by rw [r7.2.2]; exact ve, f1, fun r hr => ⟨_, hr.trans r11.1, r11.2.1, by rw [r11.2.2]; exact wv, ?_⟩⟩⟩⟩
    rw [ce, cl, fa h (k := 7) (i := e) (by unfold ak; omega) he, fa h (k := 11) (i := w) (by unfold ak; omega) (by show w < 60; omega), z7, z11]
    refine m_len ha hf' ⟨fun _ => ⟨fun _ => ⟨f1, fun r hr => ⟨_, hr.trans r9.1, r9.2.1, by rw [r9.2.2]; exact ve, ?_⟩⟩, fun z => absurd rfl z⟩, fun z => absurd rfl z⟩
    rw [ce, fa h (k := 9) (i := e) (by unfold ak; omega) he]
    refine ⟨fun z => absurd z (hf e he), fun _ => ?_⟩
    show w_X6_sends_4 G (B 0 1) (nI w) K (d + 1) (-1) (nI e + 1) u
    rw [nI_1]
    exact ih (e + 1) (by omega) B G t ka σ u K h hK
/-- .. and it goes through the other walks and changes nothing -/
theorem noFree {n m : Nat} (hW : Iw s n m) (hf : ∀ k, k < 4 → ¬ s 9 k = 0) : ∀ d i, i + d = n → (∀ (B : Nat → Nat → Nat) (G : Ctx) (t : Nat → Nat → Nat) (ka : List Nat) (σ : Nat → Nat → Int32) (u : Mem) (v1 v2 v3 : Int32) (K : Int32 → Mem → Prop) (J43 : Int32 → Int32 → Mem → Prop), S2 B G σ t ka s u → (∀ u', S2 B G σ t ka s u' → mI u' 224 (B 0 1) = mI u 224 (B 0 1) → mJ u' (B 0 2) 0 = mJ u (B 0 2) 0 → ∃ q, w_X6_pass_85 G (B 0 1) v1 K J43 q v2 v3 0 u') → w_X6_pass_51 G (B 0 1) v1 K J43 (d + 1) v2 v3 (nI i) u) := by
  intro d
  have hn : n ≤ 60 := hW.1.1
  induction d with
  | zero =>
    intro i hi B G t ka σ u v1 v2 v3 K J43 h hK
    have e : nI n ≤ nI i := by rw [nI_leI (by omega) (by omega)]; omega
    have e234 : mI u 234 (B 0 1) = nI n := (fm h).2.2.2.1.trans hW.1.2.2.1
    rw [wS_X6_pass_51]
    refine ⟨(fm h).1, ?_⟩
    rw [e234]
    exact ⟨fun _ => hK u h rfl rfl, fun z => absurd e z⟩
  | succ d ih =>
    intro i hi B G t ka σ u v1 v2 v3 K J43 h hK
    have hi2 : i < n := by omega
    have wv := vp_in_nI (n := i) (N := 60) (by omega) (by decide)
    have e234 : mI u 234 (B 0 1) = nI n := (fm h).2.2.2.1.trans hW.1.2.2.1
    have r13 := fr h (k := 13) (by unfold ak; omega)
    have go : w_X6_pass_51 G (B 0 1) v1 K J43 (d + 1) v2 v3 (nI i + 1) u := by
      rw [nI_1]; exact ih (i + 1) (by omega) B G t ka σ u v1 v2 v3 K J43 h hK
    rw [wS_X6_pass_51]
    refine ⟨(fm h).1, ?_⟩
    rw [e234]
    exact ⟨fun z => absurd z (nle hi2 (by omega)), fun _ => ⟨(fm h).1, fun r hr => ⟨_, hr.trans r13.1, r13.2.1, by rw [r13.2.2]; exact wv, fun _ => ⟨(fm h).1, 5, r_none hf hW hi2 4 0 (by omega) B G t ka σ u _ h go⟩, fun _ => go⟩⟩⟩
theorem giveAll {n m : Nat} : ∀ (d i : Nat) (s : Nat → Nat → Int32), Iw s n m → i + d = n → ∃ (s' : Nat → Nat → Int32), Iw s' n m ∧ s' 2 0 = s 2 0 ∧ kf s' m = kf s m ∧
    (∀ (B : Nat → Nat → Nat) (G : Ctx) (t : Nat → Nat → Nat) (ka : List Nat) (σ : Nat → Nat → Int32) (u : Mem) (K : Mem → Prop), S2 B G s t ka σ u → t 3 0 = n → (∀ u', S2 B G s' t ka σ u' → K u') → w_X5_giveEscorts_2 G (B 0 0) K (d + 1) (nI i) u) ∧
    (∀ (B : Nat → Nat → Nat) (G : Ctx) (t : Nat → Nat → Nat) (ka : List Nat) (σ : Nat → Nat → Int32) (u : Mem) (v1 v2 v3 : Int32) (K : Int32 → Mem → Prop) (J43 : Int32 → Int32 → Mem → Prop), S2 B G σ t ka s u → (∀ u', S2 B G σ t ka s' u' → mI u' 224 (B 0 1) = mI u 224 (B 0 1) → mJ u' (B 0 2) 0 = mJ u (B 0 2) 0 → ∃ q, w_X6_pass_85 G (B 0 1) v1 K J43 q v2 v3 0 u') → w_X6_pass_51 G (B 0 1) v1 K J43 (d + 1) v2 v3 (nI i) u) := by
  intro d
  induction d with
  | zero =>
    intro i s hW hi
    have hn : n ≤ 60 := hW.1.1
    have e : nI n ≤ nI i := by rw [nI_leI (by omega) (by omega)]; omega
    refine ⟨s, hW, rfl, rfl, fun B G t ka σ u K h n0 hK => ?_, fun B G t ka σ u v1 v2 v3 K J43 h hK => ?_⟩
    · obtain ⟨f1, f2, f3, f4, f5, f6, f7, f8, f9, f10, f11, f12, f13, f14, f15, f16, f17, f18, f19, f20, f21, f22⟩ := fd h
      rw [wS_X5_giveEscorts_2]
      refine ⟨f1, fun r hr => ⟨_, hr.trans f4, f15, f15, ?_⟩⟩
      rw [f18, n0]
      exact ⟨fun _ => hK u h, fun z => absurd e z⟩
    · have e234 : mI u 234 (B 0 1) = nI n := (fm h).2.2.2.1.trans hW.1.2.2.1
      rw [wS_X6_pass_51]
      refine ⟨(fm h).1, ?_⟩
      rw [e234]
      exact ⟨fun _ => hK u h rfl rfl, fun z => absurd e z⟩
  | succ d ih =>
    intro i s hW hi
    have hn : n ≤ 60 := hW.1.1
    have hi2 : i < n := by omega
    have wv := vp_in_nI (n := i) (N := 60) (by omega) (by decide)
    have cl := nIc (i := i) (N := 60) (by omega) (by decide)
    -- class and reference up to the walk's state
    have cpre : ∀ (B : Nat → Nat → Nat) (G : Ctx) (t : Nat → Nat → Nat) (ka : List Nat) (σ : Nat → Nat → Int32) (u : Mem) (K : Mem → Prop) (J : Int32 → Mem → Prop), S2 B G s t ka σ u → t 3 0 = n → (¬ s 13 i = 0 → J (nI i + 1) u) → (s 13 i = 0 → w_X5_bestFreeEscort G (B 0 0) (s 11 i) u (fun r47 u46 => ((r47 = none → K u46) ∧ (∀ a48 : Nat, r47 = some a48 → (OB u46 a48 2 ∧ (((0 : Int32) = 0 ∨ (0 : Int32) = 1) ∧ (∀ u49 : Mem, u49 = setI u46 67 a48 (0 : Int32) → (OB u49 (t 0 i) 5 ∧ (∀ u50 : Mem, u50 = setR u49 164 (t 0 i) (some a48) → (OB u50 (t 0 i) 5 ∧ (∀ u51 : Mem, u51 = setI u50 163 (t 0 i) (1 : Int32) → (w_X5_giveEscorts_61 G (B 0 0) K J (nI i) u51)))))))))))) → b_X5_giveEscorts_2 G (B 0 0) K J (nI i) u := by
      intro B G t ka σ u K J h n0 q1 q2
      obtain ⟨f1, f2, f3, f4, f5, f6, f7, f8, f9, f10, f11, f12, f13, f14, f15, f16, f17, f18, f19, f20, f21, f22⟩ := fd h
      have hi3 : i < t 3 0 := by omega
      have gw := fw h hi3
      refine ⟨f1, fun r hr => ⟨_, hr.trans f4, f15, f15, ?_⟩⟩
      rw [f18]
      refine ⟨fun z => absurd z (nle hi3 (by omega)), fun _ => ⟨f1, fun r hr => ⟨_, hr.trans f4, f15, ?_⟩⟩⟩
      rw [w_get0 h hi3]
      refine ⟨_, rfl, gw.1, gw.1, ?_⟩
      rw [gw.2.2.2.2.1, gw.2.2.1]
      exact ⟨fun z => ⟨gw.1, f1, q2 z⟩, fun z => q1 z⟩
    have rpre : ∀ (B : Nat → Nat → Nat) (G : Ctx) (t : Nat → Nat → Nat) (ka : List Nat) (σ : Nat → Nat → Int32) (u : Mem) (v1 v2 v3 : Int32) (K : Int32 → Mem → Prop) (J43 : Int32 → Int32 → Mem → Prop) (J : Int32 → Int32 → Int32 → Mem → Prop), S2 B G σ t ka s u → (¬ s 13 i = 0 → J v2 v3 (nI i + 1) u) → (s 13 i = 0 → w_X6_sends G (B 0 1) (nI i) u (fun u60 => (w_X6_pass_76 G (B 0 1) v1 K J43 J v2 v3 (nI i) u60))) → b_X6_pass_51 G (B 0 1) v1 K J43 J v2 v3 (nI i) u := by
      intro B G t ka σ u v1 v2 v3 K J43 J h q1 q2
      have e234 : mI u 234 (B 0 1) = nI n := (fm h).2.2.2.1.trans hW.1.2.2.1
      have r13 := fr h (k := 13) (by unfold ak; omega)
      refine ⟨(fm h).1, ?_⟩
      rw [e234]
      refine ⟨fun z => absurd z (nle hi2 (by omega)), fun _ => ⟨(fm h).1, fun r hr => ⟨_, hr.trans r13.1, r13.2.1, by rw [r13.2.2]; exact wv, ?_⟩⟩⟩
      rw [cl, fa h (k := 13) (i := i) (by unfold ak; omega) (by show i < 60; omega)]
      exact ⟨fun z => ⟨(fm h).1, q2 z⟩, fun z => q1 z⟩
    by_cases h0 : s 13 i = 0
    · obtain ⟨b', p1, p2, p3, p4⟩ := best1 hW hi2 4 0 none (by omega) (fun k hk => by cases hk)
      cases hb : b' with
      | none =>
        subst hb
        have hf : ∀ k, k < 4 → ¬ s 9 k = 0 := fun k hk => (p2 rfl).2 k (Nat.zero_le _) hk
        refine ⟨s, hW, rfl, rfl, fun B G t ka σ u K h n0 hK => ?_, fun B G t ka σ u v1 v2 v3 K J43 h hK => noFree hW hf (d + 1) i hi B G t ka σ u v1 v2 v3 K J43 h hK⟩
        rw [wS_X5_giveEscorts_2]
        exact cpre B G t ka σ u K _ h n0 (fun z => absurd h0 z) (fun _ => ⟨5, p3 B G t ka σ u _ h ⟨fun _ => hK u h, fun a z => by cases z⟩⟩)
      | some e =>
        subst hb
        have he := p1 e rfl
        obtain ⟨s', hW', hz, hk', hc, hr⟩ := ih (i + 1) _ (I_send2 hW hi2 he) (by omega)
        refine ⟨s', hW', hz, hk'.trans (kf_cong m rfl (fun j => rfl)), fun B G t ka σ u K h n0 hK => ?_, fun B G t ka σ u v1 v2 v3 K J43 h hK => ?_⟩
        · have hi3 : i < t 3 0 := by omega
          rw [wS_X5_giveEscorts_2]
          refine cpre B G t ka σ u K _ h n0 (fun z => absurd h0 z) (fun _ => ⟨5, p3 B G t ka σ u _ h ⟨fun z => (by cases z), fun a48 h48 => ?_⟩⟩)
          have h48 := (Option.some.inj h48).symm
          subst h48
          have mone : ¬ (nI e = -1) := fun y => absurd (y ▸ nI_pos (n := e) (by omega)) (by decide)
          refine ⟨(fe h he).2.1, .inl rfl, fun u49 h49 => ?_⟩
          have hS := S_ebusy h he 1 0 (by simp)
          rw [← h49] at hS
          refine ⟨(fw hS hi3).1, fun u50 h50 => ?_⟩
          have hS2 := S_wesc hS hi3 (nI e) (some (B 3 e)) (by rw [if_neg mone, nI_clamp (by omega)])
          rw [← h50] at hS2
          refine ⟨(fw hS2 hi3).1, fun u51 h51 => ?_⟩
          have hS3 := S_wstate hS2 hi3 1
          rw [← h51, up3] at hS3
          show w_X5_giveEscorts_2 G (B 0 0) K (d + 1) (nI i + 1) u51
          rw [nI_1]
          exact hc B G t ka σ u51 K hS3 n0 hK
        · rw [wS_X6_pass_51]
          refine rpre B G t ka σ u v1 v2 v3 K J43 _ h (fun z => absurd h0 z) (fun _ => ⟨5, p4 B G t ka σ u _ h (fun z => by cases z) (fun k hk u' hS g1 g2 => ?_)⟩)
          have hk := Option.some.inj hk
          subst hk
          show w_X6_pass_51 G (B 0 1) v1 K J43 (d + 1) v2 v3 (nI i + 1) u'
          rw [nI_1]
          exact hr B G t ka σ u' v1 v2 v3 K J43 hS (fun u2 hS2 g3 g4 => hK u2 hS2 (g3.trans g1) (g4.trans g2))
    · obtain ⟨s', hW', hz, hk', hc, hr⟩ := ih (i + 1) s hW (by omega)
      refine ⟨s', hW', hz, hk', fun B G t ka σ u K h n0 hK => ?_, fun B G t ka σ u v1 v2 v3 K J43 h hK => ?_⟩
      · rw [wS_X5_giveEscorts_2]
        exact cpre B G t ka σ u K _ h n0 (fun _ => by rw [nI_1]; exact hc B G t ka σ u K h n0 hK) (fun z => absurd z h0)
      · rw [wS_X6_pass_51]
        exact rpre B G t ka σ u v1 v2 v3 K J43 _ h (fun _ => by rw [nI_1]; exact hr B G t ka σ u v1 v2 v3 K J43 h hK) (fun z => absurd z h0)
end S2P
