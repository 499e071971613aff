section S2H
variable {B : Nat → Nat → Nat} {G : Ctx} {s z : Nat → Nat → Int32} {t : Nat → Nat → Nat} {ka : List Nat} {u : Mem} {n m : Nat}
theorem go1 {w e : Nat} (hW : Iw s n m) (hQ : Qi s n m) (hw : w < n) (he : e < 4) (z14 : s 14 w = nI e) (z13 : s 13 w = 1 ∨ s 13 w = 2) : ∃ (s' : Nat → Nat → Int32) (m' x : Nat), x ≤ 1 ∧ m ≤ m' ∧ m' ≤ 40 ∧ Iw s' n m' ∧ Qi s' n m' ∧ Clk s' s ∧
    (∀ (B : Nat → Nat → Nat) (G : Ctx) (t : Nat → Nat → Nat) (ka : List Nat) (σ : Nat → Nat → Int32) (u : Mem) (mc ms c : Nat) (J : Int32 → Nat → Nat → Mem → Prop), S2 B G s t ka σ u → t 3 0 = n → t 3 1 = m → ka = kf s m → 3 * (m' - m) ≤ mc → 1000 * (m' - m) ≤ ms → (∀ t' u', S2 B G s' t' (kf s' m') σ u' → t' 3 0 = n → t' 3 1 = m' → (∀ w, t' 0 w = t 0 w) → J (nI (c + x)) (mc - 3 * (m' - m)) (ms - 1000 * (m' - m)) u') → w_X5_move G (t 0 w) (B 3 e) u (fun u58 => (OB u58 (t 0 w) 5 ∧ (((mI u58 163 (t 0 w)) = (2 : Int32) → (OB u58 (B 3 e) 2 ∧ (∃ c63 b64 : Nat, c63 ≤ mc ∧ b64 ≤ ms ∧ (OB u58 (B 0 0) 6 ∧ (w_X5_see G (B 0 0) (t 0 w) (mI u58 65 (B 3 e)) c63 b64 u58 (fun u61 => (w_X5_endIfThere G (t 0 w) (B 3 e) u61 (fun r66 u65 => J (nI c + r66) (mc - c63) (ms - b64) u65)))))))) ∧ (¬ (mI u58 163 (t 0 w)) = (2 : Int32) → J (nI c) mc ms u58))))) ∧
    (∀ (B : Nat → Nat → Nat) (G : Ctx) (t : Nat → Nat → Nat) (ka : List Nat) (σ z : Nat → Nat → Int32) (u : Mem) (K : Int32 → Mem → Prop), S2 B G σ t ka z u → Rel s n m z → (∀ z' u', S2 B G σ t ka z' u' → Rel s' n m' z' → K (nI x) u') → w_L_goes G (nI w) (B 4 1) (B 4 2) (B 4 3) (B 4 4) (B 4 5) (B 4 0) u K) := by
  obtain ⟨hQs, hQg, hQb⟩ := hQ
  have hn8 : n ≤ 8 := hQs.1
  have hm40 := Qb_40 hQb
  obtain ⟨a, ha, z7⟩ := hW.2.2.2.2.1 e he
  obtain ⟨f, d, hf, hd, e11, e12⟩ := hW.2.2.2.2.2.2.1 w hw
  -- the law up to the step
  have lpre : ∀ (B : Nat → Nat → Nat) (G : Ctx) (t : Nat → Nat → Nat) (ka : List Nat) (σ z : Nat → Nat → Int32) (u : Mem) (K : Int32 → Mem → Prop), S2 B G σ t ka z u → Rel s n m z → (s 13 w = 2 → w_L_goes_48 G (nI w) (B 4 1) (B 4 2) (B 4 3) (B 4 4) (B 4 5) (B 4 0) K (nI (3 * e)) (nI d) (nI a) (nI (3 * e)) (B 4 2) u) → (¬ s 13 w = 2 → w_L_goes_48 G (nI w) (B 4 1) (B 4 2) (B 4 3) (B 4 4) (B 4 5) (B 4 0) K (nI (3 * e)) (nI f) (nI a) (nI (3 * e)) (B 4 2) u) → w_L_goes G (nI w) (B 4 1) (B 4 2) (B 4 3) (B 4 4) (B 4 5) (B 4 0) u K := by
    intro B G t ka σ z u K h hR q1 q2
    obtain ⟨r0, r1, r2, r3, r4, r5⟩ := hR.2.2.2.1 w hw
    obtain ⟨a1, a2, a3⟩ := rd h 3 (6 * w + 3) (by omega) (j63 w) (by show 6 * w + 3 < 48; omega)
    obtain ⟨b1, b2, b3⟩ := rd h 2 (3 * e) (by omega) (x := nI (3 * e)) rfl (by show 3 * e < 12; omega)
    obtain ⟨c1, c2, c3⟩ := rd h 3 (6 * w + 2) (by omega) (j62 w) (by show 6 * w + 2 < 48; omega)
    obtain ⟨d1, d2, d3⟩ := rd h 3 (6 * w + 1) (by omega) (j61 w) (by show 6 * w + 1 < 48; omega)
    obtain ⟨f1, f2, f3⟩ := rd h 3 (6 * w) (by omega) (j6 w) (by show 6 * w < 48; omega)
    rw [r3, z14] at a3
    rw [(hR.2.2.1 e he).1, z7] at b3
    rw [r2] at c3
    rw [r1, e12] at d3
    rw [r0, e11] at f3
    refine ⟨a1, a2, ?_⟩
    rw [a3, j3 e]
    refine ⟨b1, b2, c1, c2, ?_⟩
    rw [b3, c3]
    refine ⟨fun y => ⟨d1, d2, ?_⟩, fun y => ⟨f1, f2, ?_⟩⟩
    · rw [d3]; exact q1 y
    · rw [f3]; exact q2 y
  -- what is common: a new place with s1, and the walk is seen
  have seen : ∀ (s1 : Nat → Nat → Int32), Iw s1 n m → Qs s1 n → Qg s1 n m → Qb s1 n (m + 1) w → kf s1 m = kf s m → Clk s1 s → s1 14 w = nI e → s1 13 w = 2 →
      (∀ (B : Nat → Nat → Nat) (G : Ctx) (t : Nat → Nat → Nat) (ka : List Nat) (σ : Nat → Nat → Int32) (u : Mem) (K : Mem → Prop), S2 B G s t ka σ u → t 3 0 = n → (∀ u', S2 B G s1 t ka σ u' → K u') → w_X5_move G (t 0 w) (B 3 e) u K) →
      (∀ (B : Nat → Nat → Nat) (G : Ctx) (t : Nat → Nat → Nat) (ka : List Nat) (σ z : Nat → Nat → Int32) (u : Mem) (K : Int32 → Mem → Prop), S2 B G σ t ka z u → Rel s n m z → (∀ z' u', S2 B G σ t ka z' u' → Rel s1 n m (up2 z' 3 (6 * w + 2) 2) → w_L_goes_79 G (nI w) (B 4 1) (B 4 2) (B 4 3) (B 4 4) (B 4 5) (B 4 0) K (nI (3 * e)) u') → w_L_goes G (nI w) (B 4 1) (B 4 2) (B 4 3) (B 4 4) (B 4 5) (B 4 0) u K) →
      ∃ (s' : Nat → Nat → Int32) (m' x : Nat), x ≤ 1 ∧ m ≤ m' ∧ m' ≤ 40 ∧ Iw s' n m' ∧ Qi s' n m' ∧ Clk s' s ∧
    (∀ (B : Nat → Nat → Nat) (G : Ctx) (t : Nat → Nat → Nat) (ka : List Nat) (σ : Nat → Nat → Int32) (u : Mem) (mc ms c : Nat) (J : Int32 → Nat → Nat → Mem → Prop), S2 B G s t ka σ u → t 3 0 = n → t 3 1 = m → ka = kf s m → 3 * (m' - m) ≤ mc → 1000 * (m' - m) ≤ ms → (∀ t' u', S2 B G s' t' (kf s' m') σ u' → t' 3 0 = n → t' 3 1 = m' → (∀ w, t' 0 w = t 0 w) → J (nI (c + x)) (mc - 3 * (m' - m)) (ms - 1000 * (m' - m)) u') → w_X5_move G (t 0 w) (B 3 e) u (fun u58 => (OB u58 (t 0 w) 5 ∧ (((mI u58 163 (t 0 w)) = (2 : Int32) → (OB u58 (B 3 e) 2 ∧ (∃ c63 b64 : Nat, c63 ≤ mc ∧ b64 ≤ ms ∧ (OB u58 (B 0 0) 6 ∧ (w_X5_see G (B 0 0) (t 0 w) (mI u58 65 (B 3 e)) c63 b64 u58 (fun u61 => (w_X5_endIfThere G (t 0 w) (B 3 e) u61 (fun r66 u65 => J (nI c + r66) (mc - c63) (ms - b64) u65)))))))) ∧ (¬ (mI u58 163 (t 0 w)) = (2 : Int32) → J (nI c) mc ms u58))))) ∧
    (∀ (B : Nat → Nat → Nat) (G : Ctx) (t : Nat → Nat → Nat) (ka : List Nat) (σ z : Nat → Nat → Int32) (u : Mem) (K : Int32 → Mem → Prop), S2 B G σ t ka z u → Rel s n m z → (∀ z' u', S2 B G σ t ka z' u' → Rel s' n m' z' → K (nI x) u') → w_L_goes G (nI w) (B 4 1) (B 4 2) (B 4 3) (B 4 4) (B 4 5) (B 4 0) u K) := by
    intro s1 hW1 hQs1 hQg1 hQb1 hk1 hz1 y14 y13 hC hL
    obtain ⟨s', m', x, hx, h1, h2, hW2, hQ2, hz, hc, hr⟩ := seeW hW1 hQs1 hQg1 hQb1 hw he y14 y13
    refine ⟨s', m', x, hx, h1, h2, hW2, hQ2, hz.trans hz1, fun B G t ka σ u mc ms c J h n0 n1 ek q1 q2 hK => ?_, fun B G t ka σ z u K h hR hK => ?_⟩
    · refine hC B G t ka σ u _ h n0 (fun u' hS => ?_)
      have hw' : w < t 3 0 := by omega
      have gw := fw hS hw'
      have ge := fe hS he
      refine ⟨gw.1, fun _ => ⟨ge.2.1, 3 * (m' - m), 1000 * (m' - m), q1, q2, (fd hS).1, ?_⟩, fun y => absurd (gw.2.2.2.2.1.trans y13) y⟩
      rw [ge.2.2.2.1]
      refine hc B G t ka σ u' _ _ _ hS n0 n1 (hk1 ▸ ek) (Nat.le_refl _) (Nat.le_refl _) (fun t2 u2 hS2 k0 k1 kw => ?_)
      rw [nI_add]
      exact hK t2 u2 hS2 k0 k1 kw
    · exact hL B G t ka σ z u K h hR (fun z' u' hS hR' => hr B G t ka σ z' u' K hS hR' hK)
  by_cases h2 : s 13 w = 2
  · have hb := stp_lt a ha d hd
    refine seen (up2 s 7 e (nI (stp a d))) (Iw_st (I_7 hW e _ ⟨_, hb, rfl⟩) (kf_cong m rfl (fun j => rfl))) (Qs_7 hQs e _) (Qg_cong hQg (fun k hk => by funext i; rw [up2_at, if_neg (by omega)])) (Qb_walk hQs hQb hw he h2 z14 ha hd z7 e12) (kf_cong m rfl (fun j => rfl)) ⟨rfl, rfl⟩ z14 h2 (fun B G t ka σ u K h n0 hK => ?_) (fun B G t ka σ z u K h hR hK => ?_)
    · have hw' : w < t 3 0 := by omega
      have gw := fw h hw'
      have ge := fe h he
      refine ⟨gw.1, fun _ => ⟨ge.2.1, gw.1, ?_⟩, fun y => absurd (gw.2.2.2.2.1.trans h2) y⟩
      rw [ge.2.2.2.1, gw.2.2.2.1, z7, e12]
      refine c_step ha hd ⟨ge.2.1, fun u9 h9 => ?_⟩
      rw [h9]
      exact hK _ (S_estreet h he _)
    · refine lpre B G t ka σ z u K h hR (fun _ => ?_) (fun y => absurd h2 y)
      refine l_step ha hd (wr h 2 (3 * e) (by omega) rfl (by show 3 * e < 12; omega) (fun u1 h1 => ?_))
      have hR1 := R_7 hR he (nI (stp a d))
      have e13 := ((hR1.2.2.2.1 w hw).2.2.1).trans (show up2 s 7 e (nI (stp a d)) 13 w = 2 from h2)
      obtain ⟨c1, c2, c3⟩ := rd h1 3 (6 * w + 2) (by omega) (j62 w) (by show 6 * w + 2 < 48; omega)
      rw [e13] at c3
      refine ⟨c1, c2, ?_⟩
      rw [c3]
      refine ⟨fun y => absurd y (by decide), fun _ => ?_⟩
      refine hK _ u1 h1 ?_
      rw [up2_id e13]
      exact hR1
  · have h1 : s 13 w = 1 := z13.resolve_right h2
    have hb := stp_lt a ha f hf
    have nn : (nI (stp a f) = nI f) ↔ stp a f = f := nI_eq (by omega) (by omega)
    -- the class
    have cm : ∀ (B : Nat → Nat → Nat) (G : Ctx) (t : Nat → Nat → Nat) (ka : List Nat) (σ : Nat → Nat → Int32) (u : Mem) (K : Mem → Prop), S2 B G s t ka σ u → t 3 0 = n → (stp a f = f → ∀ u', S2 B G (up2 (up2 s 7 e (nI (stp a f))) 13 w 2) t ka σ u' → K u') → (¬ stp a f = f → ∀ u', S2 B G (up2 s 7 e (nI (stp a f))) t ka σ u' → K u') → w_X5_move G (t 0 w) (B 3 e) u K := by
      intro B G t ka σ u K h n0 hY hN
      have hw' : w < t 3 0 := by omega
      have gw := fw h hw'
      have ge := fe h he
      refine ⟨gw.1, fun y => absurd (gw.2.2.2.2.1.symm.trans y) h2, fun _ => ⟨ge.2.1, gw.1, ?_⟩⟩
      rw [ge.2.2.2.1, gw.2.2.1, z7, e11]
      refine c_step ha hf ⟨ge.2.1, fun u4 h4 => ?_⟩
      have hS := S_estreet h he (nI (stp a f))
      rw [← h4] at hS
      have kw := fw hS hw'
      have ke := fe hS he
      refine ⟨ke.2.1, kw.1, ?_⟩
      rw [ke.2.2.2.1, kw.2.2.1]
      have e9 : up2 s 7 e (nI (stp a f)) 7 e = nI (stp a f) := by simp [up2_at]
      have e10 : up2 s 7 e (nI (stp a f)) 11 w = nI f := by rw [← e11]; simp [up2_at]
      rw [e9, e10, nn]
      refine ⟨fun y => ⟨kw.1, fun u6 h6 => ?_⟩, fun y => hN y u4 hS⟩
      rw [h6]
      exact hY y _ (S_wstate hS hw' 2)
    -- the law
    have rm : ∀ (B : Nat → Nat → Nat) (G : Ctx) (t : Nat → Nat → Nat) (ka : List Nat) (σ z : Nat → Nat → Int32) (u : Mem) (K : Int32 → Mem → Prop), S2 B G σ t ka z u → Rel s n m z → (∀ u', S2 B G σ t ka (up2 z 2 (3 * e) (nI (stp a f))) u' → (stp a f = f → w_L_goes_79 G (nI w) (B 4 1) (B 4 2) (B 4 3) (B 4 4) (B 4 5) (B 4 0) K (nI (3 * e)) u') ∧ (¬ stp a f = f → K 0 u')) → w_L_goes G (nI w) (B 4 1) (B 4 2) (B 4 3) (B 4 4) (B 4 5) (B 4 0) u K := by
      intro B G t ka σ z u K h hR hK
      refine lpre B G t ka σ z u K h hR (fun y => absurd y h2) (fun _ => ?_)
      refine l_step ha hf (wr h 2 (3 * e) (by omega) rfl (by show 3 * e < 12; omega) (fun u1 hu1 => ?_))
      have hR1 := R_7 hR he (nI (stp a f))
      obtain ⟨r0, r1, r2, r3, r4, r5⟩ := hR1.2.2.2.1 w hw
      obtain ⟨c1, c2, c3⟩ := rd hu1 3 (6 * w + 2) (by omega) (j62 w) (by show 6 * w + 2 < 48; omega)
      obtain ⟨b1, b2, b3⟩ := rd hu1 2 (3 * e) (by omega) (x := nI (3 * e)) rfl (by show 3 * e < 12; omega)
      obtain ⟨f1, f2, f3⟩ := rd hu1 3 (6 * w) (by omega) (j6 w) (by show 6 * w < 48; omega)
      have c4 := c3.trans (r2.trans (show up2 s 7 e (nI (stp a f)) 13 w = 1 from h1))
      have b4 := b3.trans (show up2 z 2 (3 * e) (nI (stp a f)) 2 (3 * e) = nI (stp a f) by rw [up2_at, if_pos ⟨rfl, rfl⟩])
      have f4 := f3.trans (r0.trans (show up2 s 7 e (nI (stp a f)) 11 w = nI f from e11))
      refine ⟨c1, c2, ?_⟩
      rw [c4]
      refine ⟨fun _ => ⟨b1, b2, f1, f2, ?_⟩, fun y => absurd rfl y⟩
      rw [b4, f4, nn]
      exact ⟨fun y => (hK u1 hu1).1 y, fun y => ⟨.inl rfl, (hK u1 hu1).2 y⟩⟩
    have hW7 : Iv (up2 s 7 e (nI (stp a f))) (fun _ i => if i = 0 then n else m) (kf s m) := I_7 hW e _ ⟨_, hb, rfl⟩
    by_cases hbf : stp a f = f
    · refine seen (up2 (up2 s 7 e (nI (stp a f))) 13 w 2) (Iw_st (I_13 hW7 w 2 hw (.inr (.inl rfl)) ⟨e, he, z14⟩) (kf_cong m rfl (fun j => rfl))) (Qs_13 (Qs_7 hQs e _) (.inl h1)) (Qg_cong hQg (fun k hk => by funext i; rw [up2_at, if_neg (by omega), up2_at, if_neg (by omega)])) (by rw [hbf]; exact Qb_meet hQs hQb hw he h1 z14 hf hd e12) (kf_cong m rfl (fun j => rfl)) ⟨rfl, rfl⟩ z14 (by simp [up2_at]) (fun B G t ka σ u K h n0 hK => cm B G t ka σ u K h n0 (fun _ => hK) (fun y => absurd hbf y)) (fun B G t ka σ z u K h hR hK => rm B G t ka σ z u K h hR (fun u1 hu1 => ⟨fun _ => hK _ u1 hu1 (R_13 (R_7 hR he _) hw 2), fun y => absurd hbf y⟩))
    · refine ⟨up2 s 7 e (nI (stp a f)), m, 0, by omega, Nat.le_refl _, hm40, Iw_st hW7 (kf_cong m rfl (fun j => rfl)), ⟨Qs_7 hQs e _, Qg_cong hQg (fun k hk => by funext i; rw [up2_at, if_neg (by omega)]), Qb_come hQs hQb hw he h1 z14 _⟩, ⟨rfl, rfl⟩, fun B G t ka σ u mc ms c J h n0 n1 ek q1 q2 hK => ?_, fun B G t ka σ z u K h hR hK => rm B G t ka σ z u K h hR (fun u1 hu1 => ⟨fun y => absurd y hbf, fun _ => hK _ u1 hu1 (R_7 hR he _)⟩)⟩
      refine cm B G t ka σ u _ h n0 (fun y => absurd y hbf) (fun _ u' hS => ?_)
      have hw' : w < t 3 0 := by omega
      have gw := fw hS hw'
      have e13 : up2 s 7 e (nI (stp a f)) 13 w = 1 := by rw [← h1]; simp [up2_at]
      refine ⟨gw.1, fun y => absurd (gw.2.2.2.2.1.symm.trans y) (by rw [e13]; decide), fun _ => ?_⟩
      have := hK t u' (by rw [show kf (up2 s 7 e (nI (stp a f))) m = kf s m from kf_cong m rfl (fun j => rfl), ← ek]; exact hS) n0 n1 (fun _ => rfl)
      simpa using this
theorem goAll {n : Nat} : ∀ (d i : Nat) (s : Nat → Nat → Int32) (m : Nat), Iw s n m → Qi s n m → i + d = n → ∃ (s' : Nat → Nat → Int32) (m' x : Nat), x ≤ d ∧ m ≤ m' ∧ m' ≤ 40 ∧ Iw s' n m' ∧ Qi s' n m' ∧ Clk s' s ∧
    (∀ (B : Nat → Nat → Nat) (G : Ctx) (t : Nat → Nat → Nat) (ka : List Nat) (σ : Nat → Nat → Int32) (u : Mem) (mc ms c : Nat) (K : Int32 → Mem → Prop), S2 B G s t ka σ u → t 3 0 = n → t 3 1 = m → ka = kf s m → 3 * (m' - m) ≤ mc → 1000 * (m' - m) ≤ ms → (∀ t' u', S2 B G s' t' (kf s' m') σ u' → t' 3 0 = n → t' 3 1 = m' → K (nI (c + x)) u') → w_X5_goOn_4 G (B 0 0) K (d + 1) (nI c) (nI i) mc ms u) ∧
    (∀ (B : Nat → Nat → Nat) (G : Ctx) (t : Nat → Nat → Nat) (ka : List Nat) (σ z : Nat → Nat → Int32) (u : Mem) (v0 v8 : Int32) (c : Nat) (K : Int32 → Mem → Prop) (J6 : Int32 → Int32 → Mem → Prop), S2 B G σ t ka z u → Rel s n m z → (∀ z' u', S2 B G σ t ka z' u' → Rel s' n m' z' → J6 (nI (c + x)) (v8 + 1) u') → w_L_minutes_52 G v0 (B 4 1) (B 4 2) (B 4 3) (B 4 4) (B 4 5) (B 4 0) K J6 (d + 1) (nI c) v8 (nI i) u) := by
  intro d
  induction d with
  | zero =>
    intro i s m hW hQ hi
    have hn8 : n ≤ 8 := hQ.1.1
    have e : nI n ≤ nI i := by rw [nI_leI (by omega) (by omega)]; omega
    refine ⟨s, m, 0, Nat.le_refl _, Nat.le_refl _, Qb_40 hQ.2.2, hW, hQ, ⟨rfl, rfl⟩, fun B G t ka σ u mc ms c K h n0 n1 ek q1 q2 hK => ?_, fun B G t ka σ z u v0 v8 c K J6 h hR hK => ?_⟩
    · obtain ⟨f1, f2, f3, f4, f5, f6, f7, f8, f9, f10, f11, f12, f13, f14, f15, f16, f17, f18, f19, f20, f21, f22⟩ := fd h
      rw [wS_X5_goOn_4]
      refine ⟨f1, fun r hr => ⟨_, hr.trans f4, f15, f15, ?_⟩⟩
      rw [f18, n0]
      exact ⟨fun _ => hK t u (ek ▸ h) n0 n1, fun y => absurd e y⟩
    · obtain ⟨o1, o2, o3⟩ := rd h 0 2 (by omega) (x := 2) rfl (by decide)
      rw [hR.1.2.2.1] at o3
      rw [wS_L_minutes_52]
      refine ⟨o1, o2, ?_⟩
      rw [o3]
      exact ⟨fun _ => hK z u h hR, fun y => absurd e y⟩
  | succ d ih =>
    intro i s m hW hQ hi
    have hn8 : n ≤ 8 := hQ.1.1
    have hi2 : i < n := by omega
    -- the law up to the walk's state
    have lpre : ∀ (B : Nat → Nat → Nat) (G : Ctx) (t : Nat → Nat → Nat) (ka : List Nat) (σ z : Nat → Nat → Int32) (u : Mem) (v0 v7 v8 : Int32) (K : Int32 → Mem → Prop) (J6 : Int32 → Int32 → Mem → Prop) (J : Int32 → Int32 → Int32 → Mem → Prop), S2 B G σ t ka z u → Rel s n m z → ((s 13 i = 1 ∨ s 13 i = 2) → w_L_minutes_87 G v0 (B 4 1) (B 4 2) (B 4 3) (B 4 4) (B 4 5) (B 4 0) K J6 J v7 v8 (nI i) u) → (¬ (s 13 i = 1 ∨ s 13 i = 2) → w_L_minutes_92 G v0 (B 4 1) (B 4 2) (B 4 3) (B 4 4) (B 4 5) (B 4 0) K J6 J v7 v8 (nI i) 0 u) → b_L_minutes_52 G v0 (B 4 1) (B 4 2) (B 4 3) (B 4 4) (B 4 5) (B 4 0) K J6 J v7 v8 (nI i) u := by
      intro B G t ka σ z u v0 v7 v8 K J6 J h hR q1 q2
      obtain ⟨o1, o2, o3⟩ := rd h 0 2 (by omega) (x := 2) rfl (by decide)
      rw [hR.1.2.2.1] at o3
      obtain ⟨c1, c2, c3⟩ := rd h 3 (6 * i + 2) (by omega) (j62 i) (by show 6 * i + 2 < 48; omega)
      rw [(hR.2.2.2.1 i hi2).2.2.1] at c3
      refine ⟨o1, o2, ?_⟩
      rw [o3]
      refine ⟨fun y => absurd y (nle hi2 (by omega)), fun _ => ⟨c1, c2, ?_⟩⟩
      rw [c3]
      refine ⟨fun y => q1 (.inl y), fun y => ⟨c1, c2, ?_⟩⟩
      exact ⟨fun y2 => q1 (.inr y2), fun y2 => q2 (fun y3 => y3.elim y y2)⟩
    -- the walk stays as it is
    have stay : (s 14 i = -1 ∧ s 13 i = 0) ∨ (∃ e, e < 4 ∧ s 14 i = nI e ∧ s 13 i = 3) → ∃ (s' : Nat → Nat → Int32) (m' x : Nat), x ≤ d + 1 ∧ m ≤ m' ∧ m' ≤ 40 ∧ Iw s' n m' ∧ Qi s' n m' ∧ Clk s' s ∧
    (∀ (B : Nat → Nat → Nat) (G : Ctx) (t : Nat → Nat → Nat) (ka : List Nat) (σ : Nat → Nat → Int32) (u : Mem) (mc ms c : Nat) (K : Int32 → Mem → Prop), S2 B G s t ka σ u → t 3 0 = n → t 3 1 = m → ka = kf s m → 3 * (m' - m) ≤ mc → 1000 * (m' - m) ≤ ms → (∀ t' u', S2 B G s' t' (kf s' m') σ u' → t' 3 0 = n → t' 3 1 = m' → K (nI (c + x)) u') → w_X5_goOn_4 G (B 0 0) K (d + 1 + 1) (nI c) (nI i) mc ms u) ∧
    (∀ (B : Nat → Nat → Nat) (G : Ctx) (t : Nat → Nat → Nat) (ka : List Nat) (σ z : Nat → Nat → Int32) (u : Mem) (v0 v8 : Int32) (c : Nat) (K : Int32 → Mem → Prop) (J6 : Int32 → Int32 → Mem → Prop), S2 B G σ t ka z u → Rel s n m z → (∀ z' u', S2 B G σ t ka z' u' → Rel s' n m' z' → J6 (nI (c + x)) (v8 + 1) u') → w_L_minutes_52 G v0 (B 4 1) (B 4 2) (B 4 3) (B 4 4) (B 4 5) (B 4 0) K J6 (d + 1 + 1) (nI c) v8 (nI i) u) := by
      intro hst
      obtain ⟨s', m', x, hx, h1, h2, hW2, hQ2, hz, hc, hr⟩ := ih (i + 1) s m hW hQ (by omega)
      refine ⟨s', m', x, by omega, h1, h2, hW2, hQ2, hz, fun B G t ka σ u mc ms c K h n0 n1 ek q1 q2 hK => ?_, fun B G t ka σ z u v0 v8 c K J6 h hR hK => ?_⟩
      · have go : w_X5_goOn_4 G (B 0 0) K (d + 1) (nI c) (nI i + 1) mc ms u := by
          rw [nI_1]; exact hc B G t ka σ u mc ms c K h n0 n1 ek q1 q2 hK
        obtain ⟨f1, f2, f3, f4, f5, f6, f7, f8, f9, f10, f11, f12, f13, f14, f15, f16, f17, f18, f19, f20, f21, f22⟩ := fd h
        have hi3 : i < t 3 0 := by omega
        have gw := fw h hi3
        rw [wS_X5_goOn_4]
        refine ⟨f1, fun r hr => ⟨_, hr.trans f4, f15, f15, ?_⟩⟩
        rw [f18]
        refine ⟨fun y => absurd y (nle hi3 (by omega)), fun _ => ⟨f1, fun r hr => ⟨_, hr.trans f4, f15, ?_⟩⟩⟩
        rw [w_get0 h hi3]
        refine ⟨_, rfl, gw.1, gw.1, fun r55 hr => ⟨fun _ => go, fun a56 h56 => ⟨gw.1, ?_⟩⟩⟩
        rw [gw.2.2.2.2.1]
        rcases hst with ⟨z1, _⟩ | ⟨e, he, z1, z2⟩
        · rw [gw.2.2.2.2.2.1, if_pos z1] at hr
          rw [hr] at h56; cases h56
        · exact ⟨fun _ => go, fun y => absurd z2 y⟩
      · have y12 : ¬ (s 13 i = 1 ∨ s 13 i = 2) := by
          rcases hst with ⟨_, y⟩ | ⟨_, _, _, y⟩ <;> rw [y] <;> decide
        rw [wS_L_minutes_52]
        refine lpre B G t ka σ z u v0 (nI c) v8 K J6 _ h hR (fun y => absurd y y12) (fun _ => ⟨fun _ => ?_, fun y => absurd rfl y⟩)
        show w_L_minutes_52 G v0 (B 4 1) (B 4 2) (B 4 3) (B 4 4) (B 4 5) (B 4 0) K J6 (d + 1) (nI c + 0) v8 (nI i + 1) u
        rw [Int32.add_zero, nI_1]
        exact hr B G t ka σ z u v0 v8 c K J6 h hR hK
    rcases hW.2.2.2.2.2.2.2.1 i hi2 with ⟨z1, z2⟩ | ⟨e, he, z1, z2⟩
    · exact stay (.inl ⟨z1, z2⟩)
    · by_cases h3 : s 13 i = 3
      · exact stay (.inr ⟨e, he, z1, h3⟩)
      · have h12 : s 13 i = 1 ∨ s 13 i = 2 := by
          rcases z2 with y | y | y
          · exact .inl y
          · exact .inr y
          · exact absurd y h3
        obtain ⟨s1, m1, x1, hx1, p1, p2, hW1, hQ1, hz1, hc1, hr1⟩ := go1 hW hQ hi2 he z1 h12
        obtain ⟨s', m', x, hx, h1, h2, hW2, hQ2, hz, hc, hr⟩ := ih (i + 1) s1 m1 hW1 hQ1 (by omega)
        refine ⟨s', m', x1 + x, by omega, by omega, h2, hW2, hQ2, hz.trans hz1, fun B G t ka σ u mc ms c K h n0 n1 ek q1 q2 hK => ?_, fun B G t ka σ z u v0 v8 c K J6 h hR hK => ?_⟩
        · obtain ⟨f1, f2, f3, f4, f5, f6, f7, f8, f9, f10, f11, f12, f13, f14, f15, f16, f17, f18, f19, f20, f21, f22⟩ := fd h
          have hi3 : i < t 3 0 := by omega
          have gw := fw h hi3
          rw [wS_X5_goOn_4]
          refine ⟨f1, fun r hr => ⟨_, hr.trans f4, f15, f15, ?_⟩⟩
          rw [f18]
          refine ⟨fun y => absurd y (nle hi3 (by omega)), fun _ => ⟨f1, fun r hr => ⟨_, hr.trans f4, f15, ?_⟩⟩⟩
          rw [w_get0 h hi3]
          have hzz : ¬ s 14 i = -1 := by rw [z1]; exact fun k => absurd (k ▸ nI_pos (n := e) (by omega)) (by decide)
          refine ⟨_, rfl, gw.1, gw.1, fun r55 hr => ⟨fun y => ?_, fun a56 h56 => ⟨gw.1, ?_⟩⟩⟩
          · rw [gw.2.2.2.2.2.1, if_neg hzz, y] at hr; cases hr
          · rw [gw.2.2.2.2.2.1, if_neg hzz, z1, nIc he (by decide : 4 < 2 ^ 31), h56] at hr
            have ha := Option.some.inj hr
            subst ha
            rw [gw.2.2.2.2.1]
            refine ⟨fun y => absurd y h3, fun _ => ?_⟩
            refine hc1 B G t ka σ u mc ms c (fun v mc ms u => w_X5_goOn_79 G (B 0 0) K (w_X5_goOn_4 G (B 0 0) K (d + 1)) v (nI i) mc ms u) h n0 n1 ek (by omega) (by omega) (fun t1 u1 hS1 k0 k1 kw => ?_)
            show w_X5_goOn_4 G (B 0 0) K (d + 1) (nI (c + x1)) (nI i + 1) _ _ u1
            rw [nI_1]
            refine hc B G t1 (kf s1 m1) σ u1 _ _ (c + x1) K hS1 k0 k1 rfl (by omega) (by omega) (fun t2 u2 hS2 l0 l1 => ?_)
            rw [Nat.add_assoc]
            exact hK t2 u2 hS2 l0 l1
        · rw [wS_L_minutes_52]
          refine lpre B G t ka σ z u v0 (nI c) v8 K J6 _ h hR (fun _ => ⟨fun y => absurd y (by decide), fun _ => ?_⟩) (fun y => absurd h12 y)
          refine hr1 B G t ka σ z u _ h hR (fun z1' u1 hS1 hR1 => ?_)
          have nxt : w_L_minutes_52 G v0 (B 4 1) (B 4 2) (B 4 3) (B 4 4) (B 4 5) (B 4 0) K J6 (d + 1) (nI (c + x1)) v8 (nI i + 1) u1 := by
            rw [nI_1]
            refine hr B G t ka σ z1' u1 v0 v8 (c + x1) K J6 hS1 hR1 (fun z2' u2 hS2 hR2 => ?_)
            rw [Nat.add_assoc]
            exact hK z2' u2 hS2 hR2
          rcases Nat.eq_zero_or_pos x1 with y | y
          · subst y
            refine ⟨fun _ => ?_, fun y => absurd rfl y⟩
            show w_L_minutes_52 G v0 (B 4 1) (B 4 2) (B 4 3) (B 4 4) (B 4 5) (B 4 0) K J6 (d + 1) (nI c + 0) v8 (nI i + 1) u1
            rw [Int32.add_zero]; exact nxt
          · have y1 : x1 = 1 := by omega
            subst y1
            refine ⟨fun y => absurd y (by decide), fun _ => ?_⟩
            show w_L_minutes_52 G v0 (B 4 1) (B 4 2) (B 4 3) (B 4 4) (B 4 5) (B 4 0) K J6 (d + 1) (nI c + 1) v8 (nI i + 1) u1
            rw [nI_1 c]; exact nxt
end S2H
