section S2P
variable {B : Nat → Nat → Nat} {G : Ctx} {s s2 : Nat → Nat → Int32} {t : Nat → Nat → Nat} {ka : List Nat} {u : Mem}
theorem go1 {n m w e : Nat} (hW : Iw s n m) (hw : w < n) (he : e < 4) (z14 : s 14 w = nI e) (z13 : s 13 w = 1 ∨ s 13 w = 2) : ∃ (s' : Nat → Nat → Int32) (m' x : Nat), x ≤ 1 ∧ m ≤ m' ∧ m' ≤ 300 ∧ Iw s' n m' ∧ s' 2 0 = s 2 0 ∧
    (∀ (B : Nat → Nat → Nat) (G : Ctx) (t : Nat → Nat → Nat) (ka : List Nat) (σ : Nat → Nat → Int32) (u : Mem) (mc ms c : Nat) (J : Int32 → Nat → Nat → Mem → Prop), S2 B G s t ka σ u → t 3 0 = n → t 3 1 = m → ka = kf s m → 3 * (m' - m) ≤ mc → 1000 * (m' - m) ≤ ms → (∀ t' u', S2 B G s' t' (kf s' m') σ u' → t' 3 0 = n → t' 3 1 = m' → (∀ w, t' 0 w = t 0 w) → J (nI (c + x)) (mc - 3 * (m' - m)) (ms - 1000 * (m' - m)) u') → w_X5_move G (t 0 w) (B 3 e) u (fun u58 => (OB u58 (t 0 w) 5 ∧ (((mI u58 163 (t 0 w)) = (2 : Int32) → (OB u58 (B 3 e) 2 ∧ (∃ c63 b64 : Nat, c63 ≤ mc ∧ b64 ≤ ms ∧ (OB u58 (B 0 0) 6 ∧ (w_X5_see G (B 0 0) (t 0 w) (mI u58 65 (B 3 e)) c63 b64 u58 (fun u61 => (w_X5_endIfThere G (t 0 w) (B 3 e) u61 (fun r66 u65 => J (nI c + r66) (mc - c63) (ms - b64) u65)))))))) ∧ (¬ (mI u58 163 (t 0 w)) = (2 : Int32) → J (nI c) mc ms u58))))) ∧
    (∀ (B : Nat → Nat → Nat) (G : Ctx) (t : Nat → Nat → Nat) (ka : List Nat) (σ : Nat → Nat → Int32) (u : Mem) (K : Int32 → Mem → Prop), S2 B G σ t ka s u → (∀ u', S2 B G σ t ka s' u' → mI u' 224 (B 0 1) = mI u 224 (B 0 1) → mJ u' (B 0 2) 0 = mJ u (B 0 2) 0 → K (nI x) u') → w_X6_goes G (B 0 1) (nI w) u K) := by
  have hn : n ≤ 60 := hW.1.1
  have hm3 : m ≤ 300 := hW.1.2.1
  obtain ⟨a, ha, z7⟩ := hW.2.2.2.2.1 e he
  obtain ⟨f, d, hf, hd, e11, e12⟩ := hW.2.2.2.2.2.2.1 w hw
  have wv := vp_in_nI (n := w) (N := 60) (by omega) (by decide)
  have cl := nIc (i := w) (N := 60) (by omega) (by decide)
  have ve := vp_in_nI (n := e) (N := 4) he (by decide)
  have ce := nIc (i := e) (N := 4) he (by decide)
  -- what is common: a new place with s1, and the walk is seen
  have seen : ∀ (s1 : Nat → Nat → Int32), Iw s1 n m → kf s1 m = kf s m → s1 2 0 = s 2 0 → s1 14 w = nI e → s1 13 w = 2 →
      (∀ (B : Nat → Nat → Nat) (G : Ctx) (t : Nat → Nat → Nat) (ka : List Nat) (σ : Nat → Nat → Int32) (u : Mem) (K : Mem → Prop), S2 B G s t ka σ u → t 3 0 = n → (∀ u', S2 B G s1 t ka σ u' → K u') → w_X5_move G (t 0 w) (B 3 e) u K) →
      (∀ (B : Nat → Nat → Nat) (G : Ctx) (t : Nat → Nat → Nat) (ka : List Nat) (σ : Nat → Nat → Int32) (u : Mem) (K : Int32 → Mem → Prop), S2 B G σ t ka s u → (∀ u', S2 B G σ t ka s1 u' → mI u' 224 (B 0 1) = mI u 224 (B 0 1) → mJ u' (B 0 2) 0 = mJ u (B 0 2) 0 → w_X6_goes_88 G (B 0 1) (nI w) K (nI e) u') → w_X6_goes G (B 0 1) (nI w) u K) →
      ∃ (s' : Nat → Nat → Int32) (m' x : Nat), x ≤ 1 ∧ m ≤ m' ∧ m' ≤ 300 ∧ Iw s' n m' ∧ s' 2 0 = s 2 0 ∧
    (∀ (B : Nat → Nat → Nat) (G : Ctx) (t : Nat → Nat → Nat) (ka : List Nat) (σ : Nat → Nat → Int32) (u : Mem) (mc ms c : Nat) (J : Int32 → Nat → Nat → Mem → Prop), S2 B G s t ka σ u → t 3 0 = n → t 3 1 = m → ka = kf s m → 3 * (m' - m) ≤ mc → 1000 * (m' - m) ≤ ms → (∀ t' u', S2 B G s' t' (kf s' m') σ u' → t' 3 0 = n → t' 3 1 = m' → (∀ w, t' 0 w = t 0 w) → J (nI (c + x)) (mc - 3 * (m' - m)) (ms - 1000 * (m' - m)) u') → w_X5_move G (t 0 w) (B 3 e) u (fun u58 => (OB u58 (t 0 w) 5 ∧ (((mI u58 163 (t 0 w)) = (2 : Int32) → (OB u58 (B 3 e) 2 ∧ (∃ c63 b64 : Nat, c63 ≤ mc ∧ b64 ≤ ms ∧ (OB u58 (B 0 0) 6 ∧ (w_X5_see G (B 0 0) (t 0 w) (mI u58 65 (B 3 e)) c63 b64 u58 (fun u61 => (w_X5_endIfThere G (t 0 w) (B 3 e) u61 (fun r66 u65 => J (nI c + r66) (mc - c63) (ms - b64) u65)))))))) ∧ (¬ (mI u58 163 (t 0 w)) = (2 : Int32) → J (nI c) mc ms u58))))) ∧
    (∀ (B : Nat → Nat → Nat) (G : Ctx) (t : Nat → Nat → Nat) (ka : List Nat) (σ : Nat → Nat → Int32) (u : Mem) (K : Int32 → Mem → Prop), S2 B G σ t ka s u → (∀ u', S2 B G σ t ka s' u' → mI u' 224 (B 0 1) = mI u 224 (B 0 1) → mJ u' (B 0 2) 0 = mJ u (B 0 2) 0 → K (nI x) u') → w_X6_goes G (B 0 1) (nI w) u K) := by
    intro s1 hW1 hk1 hz1 y14 y13 hC hR
    obtain ⟨s', m', x, hx, h1, h2, hW2, hz, hc, hr⟩ := seeW hW1 hw he y14 y13
    refine ⟨s', m', x, hx, h1, h2, hW2, hz.trans hz1, fun B G t ka σ u mc ms c J h n0 n1 ek q1 q2 hK => ?_, fun B G t ka σ u K h hK => ?_⟩
    · refine hC B G t ka σ u _ h n0 (fun u' hS => ?_)
      have hw' : w < t 3 0 := by omega
      have gw := fw hS hw'
      have ge := fe hS he
      refine ⟨gw.1, fun _ => ⟨ge.2.1, 3 * (m' - m), 1000 * (m' - m), q1, q2, (fd hS).1, ?_⟩, fun z => absurd (gw.2.2.2.2.1.trans y13) z⟩
      rw [ge.2.2.2.1]
      refine hc B G t ka σ u' _ _ _ hS n0 n1 (hk1 ▸ ek) (Nat.le_refl _) (Nat.le_refl _) (fun t2 u2 hS2 k0 k1 kw => ?_)
      rw [nI_add]
      exact hK t2 u2 hS2 k0 k1 kw
    · exact hR B G t ka σ u K h (fun u' hS g1 g2 => hr B G t ka σ u' K hS (fun u2 hS2 g3 g4 => hK u2 hS2 (g3.trans g1) (g4.trans g2)))
  by_cases h2 : s 13 w = 2
  · have hb := stp_lt a ha d hd
    refine seen (up2 s 7 e (nI (stp a d))) (Iw_st (I_7 hW e _ ⟨_, hb, rfl⟩) (kf_cong m rfl (fun j => rfl))) (kf_cong m rfl (fun j => rfl)) rfl z14 h2 (fun B G t ka σ u K h n0 hK => ?_) (fun B G t ka σ u K h hK => ?_)
    · have hw' : w < t 3 0 := by omega
      have gw := fw h hw'
      have ge := fe h he
      refine ⟨gw.1, fun _ => ⟨ge.2.1, gw.1, ?_⟩, fun z => absurd (gw.2.2.2.2.1.trans h2) z⟩
      rw [ge.2.2.2.1, gw.2.2.2.1, z7, e12]
      refine c_step ha hd ⟨ge.2.1, fun u9 h9 => ?_⟩
      rw [h9]
      exact hK _ (S_estreet h he _)
    · have f1 := (fm h).1
      have r14 := fr h (k := 14) (by unfold ak; omega)
      have r13 := fr h (k := 13) (by unfold ak; omega)
      have r7 := fr h (k := 7) (by unfold ak; omega)
      have r12 := fr h (k := 12) (by unfold ak; omega)
      refine ⟨f1, fun r hr => ⟨_, hr.trans r14.1, r14.2.1, by rw [r14.2.2]; exact wv, f1, fun r hr => ⟨_, hr.trans r13.1, r13.2.1, by rw [r13.2.2]; exact wv, ?_⟩⟩⟩
      rw [cl, fa h (k := 13) (i := w) (by unfold ak; omega) (by show w < 60; omega), fa h (k := 14) (i := w) (by unfold ak; omega) (by show w < 60; omega), z14, ce]
      refine ⟨fun _ => ⟨f1, fun r21 hr21 => ⟨f1, fun r hr => ⟨_, hr.trans r7.1, r7.2.1, by rw [r7.2.2]; exact ve, f1, fun r hr => ⟨_, hr.trans r12.1, r12.2.1, by rw [r12.2.2]; exact wv, ?_⟩⟩⟩⟩, fun z => absurd h2 z⟩
      rw [fa h (k := 7) (i := e) (by unfold ak; omega) he, fa h (k := 12) (i := w) (by unfold ak; omega) (by show w < 60; omega), z7, e12]
      refine m_next ha hd ⟨_, hr21.trans r7.1, r7.2.1, by rw [r7.2.2]; exact ve, fun u29 h29 => ?_⟩
      rw [h29]
      exact hK _ (S_mrow h (k0 := 7) (i := e) (by unfold ak; omega) he _) rfl rfl
  · have h1 : s 13 w = 1 := z13.resolve_right h2
    have hb := stp_lt a ha f hf
    have nn : (nI (stp a f) = nI f) ↔ stp a f = f := nI_eq (by omega) (by omega)
    -- the class
    have cm : ∀ (B : Nat → Nat → Nat) (G : Ctx) (t : Nat → Nat → Nat) (ka : List Nat) (σ : Nat → Nat → Int32) (u : Mem) (K : Mem → Prop), S2 B G s t ka σ u → t 3 0 = n → (stp a f = f → ∀ u', S2 B G (up2 (up2 s 7 e (nI (stp a f))) 13 w 2) t ka σ u' → K u') → (¬ stp a f = f → ∀ u', S2 B G (up2 s 7 e (nI (stp a f))) t ka σ u' → K u') → w_X5_move G (t 0 w) (B 3 e) u K := by
      intro B G t ka σ u K h n0 hY hN
      have hw' : w < t 3 0 := by omega
      have gw := fw h hw'
      have ge := fe h he
      refine ⟨gw.1, fun z => absurd (gw.2.2.2.2.1.symm.trans z) h2, fun _ => ⟨ge.2.1, gw.1, ?_⟩⟩
      rw [ge.2.2.2.1, gw.2.2.1, z7, e11]
      refine c_step ha hf ⟨ge.2.1, fun u4 h4 => ?_⟩
      have hS := S_estreet h he (nI (stp a f))
      rw [← h4] at hS
      have kw := fw hS hw'
      have ke := fe hS he
      refine ⟨ke.2.1, kw.1, ?_⟩
      rw [ke.2.2.2.1, kw.2.2.1]
      have e9 : up2 s 7 e (nI (stp a f)) 7 e = nI (stp a f) := by simp [up2_at]
      have e10 : up2 s 7 e (nI (stp a f)) 11 w = nI f := by rw [← e11]; simp [up2_at]
      rw [e9, e10, nn]
      refine ⟨fun z => ⟨kw.1, fun u6 h6 => ?_⟩, fun z => hN z u4 hS⟩
      rw [h6]
      exact hY z _ (S_wstate hS hw' 2)
    -- the reference
    have rm : ∀ (B : Nat → Nat → Nat) (G : Ctx) (t : Nat → Nat → Nat) (ka : List Nat) (σ : Nat → Nat → Int32) (u : Mem) (K : Int32 → Mem → Prop), S2 B G σ t ka s u → (∀ u', S2 B G σ t ka (up2 (up2 s 7 e (nI (stp a f))) 13 w (if stp a f = f then 2 else 1)) u' → mI u' 224 (B 0 1) = mI u 224 (B 0 1) → mJ u' (B 0 2) 0 = mJ u (B 0 2) 0 → w_X6_goes_88 G (B 0 1) (nI w) K (nI e) u') → w_X6_goes G (B 0 1) (nI w) u K := by
      intro B G t ka σ u K h hK
      have f1 := (fm h).1
      have r14 := fr h (k := 14) (by unfold ak; omega)
      have r13 := fr h (k := 13) (by unfold ak; omega)
      have r7 := fr h (k := 7) (by unfold ak; omega)
      have r11 := fr h (k := 11) (by unfold ak; omega)
      refine ⟨f1, fun r hr => ⟨_, hr.trans r14.1, r14.2.1, by rw [r14.2.2]; exact wv, f1, fun r hr => ⟨_, hr.trans r13.1, r13.2.1, by rw [r13.2.2]; exact wv, ?_⟩⟩⟩
      rw [cl, fa h (k := 13) (i := w) (by unfold ak; omega) (by show w < 60; omega), fa h (k := 14) (i := w) (by unfold ak; omega) (by show w < 60; omega), z14, ce]
      refine ⟨fun z => absurd z h2, fun _ => ⟨f1, fun r6 hr6 => ⟨f1, fun r hr => ⟨_, hr.trans r7.1, r7.2.1, by rw [r7.2.2]; exact ve, f1, fun r hr => ⟨_, hr.trans r11.1, r11.2.1, by rw [r11.2.2]; exact wv, ?_⟩⟩⟩⟩⟩
      rw [fa h (k := 7) (i := e) (by unfold ak; omega) he, fa h (k := 11) (i := w) (by unfold ak; omega) (by show w < 60; omega), z7, e11]
      refine m_next ha hf ⟨_, hr6.trans r7.1, r7.2.1, by rw [r7.2.2]; exact ve, fun u14 h14 => ?_⟩
      have hS := S_mrow h (k0 := 7) (i := e) (by unfold ak; omega) he (nI (stp a f))
      rw [← h14] at hS
      have k1 := (fm hS).1
      have q13 := fr hS (k := 13) (by unfold ak; omega)
      have q7 := fr hS (k := 7) (by unfold ak; omega)
      have q11 := fr hS (k := 11) (by unfold ak; omega)
      have e9 : up2 s 7 e (nI (stp a f)) 7 e = nI (stp a f) := by simp [up2_at]
      have e10 : up2 s 7 e (nI (stp a f)) 11 w = nI f := by rw [← e11]; simp [up2_at]
      refine ⟨k1, fun r15 hr15 => ⟨k1, fun r hr => ⟨_, hr.trans q7.1, q7.2.1, by rw [q7.2.2]; exact ve, k1, fun r hr => ⟨_, hr.trans q11.1, q11.2.1, by rw [q11.2.2]; exact wv, ?_⟩⟩⟩⟩
      rw [fa hS (k := 7) (i := e) (by unfold ak; omega) he, fa hS (k := 11) (i := w) (by unfold ak; omega) (by show w < 60; omega), e9, e10, nn]
      have fin : ∀ y : Int32, y = (if stp a f = f then 2 else 1) → w_X6_goes_87 G (B 0 1) (nI w) K (nI e) y (nI w) r15 u14 := fun y hy => by
        refine ⟨_, hr15.trans q13.1, q13.2.1, by rw [q13.2.2]; exact wv, fun u2 h2' => ?_⟩
        rw [cl] at h2'
        rw [h2', hy]
        exact hK _ (S_mrow hS (k0 := 13) (i := w) (by unfold ak; omega) (by show w < 60; omega) _) (by rw [gI_setA, h14, gI_setA]) (by rw [gJ_setA, h14, gJ_setA])
      exact ⟨fun z => fin 2 (by rw [if_pos z]), fun z => fin 1 (by rw [if_neg z])⟩
    have hW7 : Iv (up2 s 7 e (nI (stp a f))) (fun _ i => if i = 0 then n else m) (kf s m) := I_7 hW e _ ⟨_, hb, rfl⟩
    by_cases hbf : stp a f = f
    · refine seen (up2 (up2 s 7 e (nI (stp a f))) 13 w 2) (Iw_st (I_13 hW7 w 2 hw (.inr (.inl rfl)) ⟨e, he, z14⟩) (kf_cong m rfl (fun j => rfl))) (kf_cong m rfl (fun j => rfl)) rfl z14 (by simp [up2_at]) (fun B G t ka σ u K h n0 hK => cm B G t ka σ u K h n0 (fun _ => hK) (fun z => absurd hbf z)) (fun B G t ka σ u K h hK => rm B G t ka σ u K h ?_)
      rw [if_pos hbf]
      exact hK
    · refine ⟨up2 s 7 e (nI (stp a f)), m, 0, by omega, Nat.le_refl _, hm3, Iw_st hW7 (kf_cong m rfl (fun j => rfl)), rfl, fun B G t ka σ u mc ms c J h n0 n1 ek q1 q2 hK => ?_, fun B G t ka σ u K h hK => ?_⟩
      · refine cm B G t ka σ u _ h n0 (fun z => absurd z hbf) (fun _ u' hS => ?_)
        have hw' : w < t 3 0 := by omega
        have gw := fw hS hw'
        have e13 : up2 s 7 e (nI (stp a f)) 13 w = 1 := by rw [← h1]; simp [up2_at]
        refine ⟨gw.1, fun z => absurd (gw.2.2.2.2.1.symm.trans z) (by rw [e13]; decide), fun _ => ?_⟩
        have := hK t u' (by rw [show kf (up2 s 7 e (nI (stp a f))) m = kf s m from kf_cong m rfl (fun j => rfl), ← ek]; exact hS) n0 n1 (fun _ => rfl)
        simpa using this
      · refine rm B G t ka σ u K h (fun u' hS g1 g2 => ?_)
        rw [if_neg hbf] at hS
        have es : up2 (up2 s 7 e (nI (stp a f))) 13 w 1 = up2 s 7 e (nI (stp a f)) := by
          funext k i
          rw [up2_at]
          split
          · rename_i z; rw [z.1, z.2, ← h1]; simp [up2_at]
          · rfl
        rw [es] at hS
        have e13 : up2 s 7 e (nI (stp a f)) 13 w = 1 := by rw [← h1]; simp [up2_at]
        have r13 := fr hS (k := 13) (by unfold ak; omega)
        refine ⟨(fm hS).1, fun r hr => ⟨_, hr.trans r13.1, r13.2.1, by rw [r13.2.2]; exact wv, ?_⟩⟩
        rw [cl, fa hS (k := 13) (i := w) (by unfold ak; omega) (by show w < 60; omega), e13]
        exact ⟨fun z => absurd z (by decide), fun _ => ⟨.inl rfl, hK u' hS g1 g2⟩⟩
end S2P
