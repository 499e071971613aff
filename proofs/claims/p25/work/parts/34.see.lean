section S2G
variable {B : Nat → Nat → Nat} {G : Ctx} {s z : Nat → Nat → Int32} {t : Nat → Nat → Nat} {ka : List Nat} {u : Mem} {n m : Nat}
def Clk (s' s : Nat → Nat → Int32) : Prop := s' 2 0 = s 2 0 ∧ s' 1 0 = s 1 0
theorem Clk.trans {a b c : Nat → Nat → Int32} (h : Clk a b) (h' : Clk b c) : Clk a c := ⟨h.1.trans h'.1, h.2.trans h'.2⟩
/-- what the law does about a picture of the walk v0 in the street v8 -/
def L_pic (G : Ctx) (v0 v8 : Int32) (v1 v4 v5 v6 : Nat) (K : Mem → Prop) (u59 : Mem) : Prop := (OB u59 v1 8 ∧ vp_in (((6 : Int32) * v8) + (2 : Int32)) (mN u59 v1) ∧ (((mA u59 v1 (((6 : Int32) * v8) + (2 : Int32)).toNatClampNeg) = (1 : Int32) → (OB u59 v6 8 ∧ vp_in (3 : Int32) (mN u59 v6) ∧ (((40 : Int32) ≤ (mA u59 v6 (3 : Int32).toNatClampNeg) → (K u59)) ∧ (¬ (40 : Int32) ≤ (mA u59 v6 (3 : Int32).toNatClampNeg) → (OB u59 v6 8 ∧ vp_in (0 : Int32) (mN u59 v6) ∧ (w_L_shows G v8 v0 (mA u59 v6 (0 : Int32).toNatClampNeg) v4 v5 v6 u59 (fun r63 u62 => ((r63 = 0 → (OB u62 v6 8 ∧ vp_in (3 : Int32) (mN u62 v6) ∧ (OB u62 v6 8 ∧ vp_in (0 : Int32) (mN u62 v6) ∧ (OB u62 v4 8 ∧ vp_in (mA u62 v6 (3 : Int32).toNatClampNeg) (mN u62 v4) ∧ (∀ u65 : Mem, u65 = setA u62 v4 ((mA u62 v6 (3 : Int32).toNatClampNeg).toNatClampNeg) ((v8 + ((8 : Int32) * v0)) + ((64 : Int32) * (mA u62 v6 (0 : Int32).toNatClampNeg))) → (OB u65 v6 8 ∧ vp_in (3 : Int32) (mN u65 v6) ∧ (OB u65 v6 8 ∧ vp_in (0 : Int32) (mN u65 v6) ∧ (w_L_days G v8 v1 u65 (fun r67 u66 => (OB u66 v5 8 ∧ vp_in (mA u65 v6 (3 : Int32).toNatClampNeg) (mN u66 v5) ∧ (∀ u68 : Mem, u68 = setA u66 v5 ((mA u65 v6 (3 : Int32).toNatClampNeg).toNatClampNeg) ((mA u65 v6 (0 : Int32).toNatClampNeg) + r67) → (OB u68 v6 8 ∧ vp_in (3 : Int32) (mN u68 v6) ∧ (OB u68 v6 8 ∧ vp_in (3 : Int32) (mN u68 v6) ∧ (∀ u69 : Mem, u69 = setA u68 v6 ((3 : Int32).toNatClampNeg) ((mA u68 v6 (3 : Int32).toNatClampNeg) + (1 : Int32)) → (K u69))))))))))))))) ∧ (¬ r63 = 0 → (K u62)))))))))) ∧ (¬ (mA u59 v1 (((6 : Int32) * v8) + (2 : Int32)).toNatClampNeg) = (1 : Int32) → (K u59))))
theorem see48 {p w : Nat} (hW : Iw s n m) (hQ : Qs s n) (hG : Qg s n m) (h40 : m < 40) (hp : p < 8) (hw : w < n) : ∃ (s' : Nat → Nat → Int32) (m' : Nat), m ≤ m' ∧ m' ≤ m + 1 ∧ Iw s' n m' ∧ Qg s' n m' ∧ (∀ k, k < 17 → s' k = s k) ∧
    (∀ (B : Nat → Nat → Nat) (G : Ctx) (t : Nat → Nat → Nat) (ka : List Nat) (σ : Nat → Nat → Int32) (u : Mem) (mc ms : Nat) (K : Mem → Prop), S2 B G s t ka σ u → t 3 0 = n → t 3 1 = m → ka = kf s m → 3 * (m' - m) ≤ mc → 1000 * (m' - m) ≤ ms → (∀ t' u', S2 B G s' t' (kf s' m') σ u' → t' 3 0 = n → t' 3 1 = m' → (∀ w, t' 0 w = t 0 w) → K u') → w_X5_see_48 G (B 0 0) (t 0 w) (nI p) K (B 1 p) mc ms u) ∧
    (∀ (B : Nat → Nat → Nat) (G : Ctx) (t : Nat → Nat → Nat) (ka : List Nat) (σ z : Nat → Nat → Int32) (u : Mem) (K : Mem → Prop), S2 B G σ t ka z u → Rel s n m z → (∀ z' u', S2 B G σ t ka z' u' → Rel s' n m' z' → K u') → L_pic G (nI w) (nI p) (B 4 1) (B 4 4) (B 4 5) (B 4 0) K u) := by
  obtain ⟨d, hd1, hd⟩ := hW.1.2.2.2.2.1
  obtain ⟨a, ha1, ha2, ea⟩ := hW.2.2.2.1 (3 * p) (by omega)
  obtain ⟨b, hb1, hb2, eb⟩ := hW.2.2.2.1 (3 * p + 1) (by omega)
  obtain ⟨c, hc1, hc2, ec⟩ := hW.2.2.2.1 (3 * p + 2) (by omega)
  have hx := med_b ⟨ha1, ha2⟩ ⟨hb1, hb2⟩ ⟨hc1, hc2⟩
  have hn8 : n ≤ 8 := hQ.1
  have n40 : ¬ ((40 : Int32) ≤ nI m) := nI_ge (a := m) (b := 40) h40 (by omega)
  by_cases hno : s 5 p = 0 ∨ ∃ k, k < m ∧ Qp s (nI p) (nI w) (s 1 0) k ∧ s 1 0 < s 21 k
  · refine ⟨s, m, Nat.le_refl _, by omega, hW, hG, fun k hk => rfl, fun B G t ka σ u mc ms K h e0 e1 ek _ _ hK => ?_, fun B G t ka σ z u K h hR hK => ?_⟩
    · have hKu : K u := hK t u (ek ▸ h) e0 e1 (fun _ => rfl)
      have hI := Iv_of hW e0 e1 ek
      obtain ⟨f1, f2, f3, f4, f5, f6, f7, f8, f9, f10, f11, f12, f13, f14, f15, f16, f17, f18, f19, f20, f21, f22⟩ := fd h
      have g := fs h hp
      refine ⟨g.2.1, ?_⟩
      rw [g.2.2.2.2.1]
      refine ⟨fun _ => hKu, fun y => ⟨f1, fun r hr => ⟨(fw h (by omega)).1, f1, f1, g.2.1, c_days h hp ea eb ec ⟨ha1, ha2⟩ ⟨hb1, hb2⟩ ⟨hc1, hc2⟩ ⟨_, hr.trans f5, 0, 0, Nat.zero_le _, Nat.zero_le _, f12, ?_⟩⟩⟩⟩
      rw [f6, (fw h (by omega : w < t 3 0)).2.1]
      refine c_takeN h hI ?_ hKu
      rw [e1]
      exact .inr (hno.resolve_left y)
    · have hKu : K u := hK z u h hR
      obtain ⟨c1, c2, c3⟩ := rd h 1 (6 * p + 2) (by omega) (j62 p) (by show 6 * p + 2 < 48; omega)
      obtain ⟨o1, o2, o3⟩ := rd h 0 3 (by omega) (x := 3) rfl (by decide)
      obtain ⟨p1, p2, p3⟩ := rd h 0 0 (by omega) (x := 0) rfl (by decide)
      rw [hR.1.2.2.2] at o3
      rw [hR.1.1] at p3
      rw [(hR.2.1 p hp).2.2.1] at c3
      refine ⟨c1, c2, ?_⟩
      rw [c3]
      refine ⟨fun y => ⟨o1, o2, ?_⟩, fun _ => hKu⟩
      rw [o3]
      refine ⟨fun y2 => absurd y2 n40, fun _ => ⟨p1, p2, ?_⟩⟩
      rw [p3, hd]
      refine l_shows h hR hG hn8 (by omega) hp (by omega) (by omega) (fun r hr er => ⟨fun y2 => ?_, fun _ => hKu⟩)
      have hk : ∃ k, k < m ∧ Qp s (nI p) (nI w) (nI d) k ∧ s 1 0 < s 21 k := by
        rcases hno with y3 | y3
        · rw [y3] at y; exact absurd y (by decide)
        · rw [← hd]; exact y3
      rw [er.mpr hk] at y2
      exact absurd y2 (by decide)
  · have hcam : ¬ s 5 p = 0 := fun y => hno (.inl y)
    have hcam1 : s 5 p = 1 := (hQ.2.1 p hp).resolve_left hcam
    have htk : ¬ ∃ k, k < m ∧ Qp s (nI p) (nI w) (s 1 0) k ∧ s 1 0 < s 21 k := fun y => hno (.inr y)
    refine ⟨s_pic s m (nI p) (nI w) (s 1 0) (s 1 0 + nI (med a b c)), m + 1, by omega, by omega, I_pic hW (by omega) hd hd1 hx, by rw [hd]; exact Qg_pic hG hp hw (by omega) _, fun k hk => ?_, fun B G t ka σ u mc ms K h e0 e1 ek q1 q2 hK => ?_, fun B G t ka σ z u K h hR hK => ?_⟩
    · funext i
      simp only [s_pic, up2_at]
      rw [if_neg (by omega), if_neg (by omega), if_neg (by omega), if_neg (by omega), if_neg (by omega)]
    · have hI := Iv_of hW e0 e1 ek
      obtain ⟨f1, f2, f3, f4, f5, f6, f7, f8, f9, f10, f11, f12, f13, f14, f15, f16, f17, f18, f19, f20, f21, f22⟩ := fd h
      have g := fs h hp
      refine ⟨g.2.1, ?_⟩
      rw [g.2.2.2.2.1]
      refine ⟨fun y => absurd y hcam, fun y => ⟨f1, fun r hr => ⟨(fw h (by omega)).1, f1, f1, g.2.1, c_days h hp ea eb ec ⟨ha1, ha2⟩ ⟨hb1, hb2⟩ ⟨hc1, hc2⟩ ⟨_, hr.trans f5, 3, 1000, by omega, by omega, f12, ?_⟩⟩⟩⟩
      rw [f6, (fw h (by omega : w < t 3 0)).2.1]
      refine c_take h hI (by omega) (by rw [e1]; exact htk) (Nat.le_refl _) (Nat.le_refl _) (fun t' u' hS n0 n1 nw => ?_)
      rw [e1] at hS n1
      refine hK t' u' ?_ (by rw [n0, e0]) n1 nw
      rw [kf_pic (n := n) hd hd1 hx, ← ek]
      exact hS
    · obtain ⟨c1, c2, c3⟩ := rd h 1 (6 * p + 2) (by omega) (j62 p) (by show 6 * p + 2 < 48; omega)
      obtain ⟨o1, o2, o3⟩ := rd h 0 3 (by omega) (x := 3) rfl (by decide)
      obtain ⟨p1, p2, p3⟩ := rd h 0 0 (by omega) (x := 0) rfl (by decide)
      rw [hR.1.2.2.2] at o3
      rw [hR.1.1] at p3
      obtain ⟨_, _, r2, r3, r4, r5⟩ := hR.2.1 p hp
      rw [r2, hcam1] at c3
      refine ⟨c1, c2, ?_⟩
      rw [c3]
      refine ⟨fun _ => ⟨o1, o2, ?_⟩, fun y => absurd rfl y⟩
      rw [o3]
      refine ⟨fun y2 => absurd y2 n40, fun _ => ⟨p1, p2, ?_⟩⟩
      rw [p3]
      have htk2 : ¬ ∃ k, k < m ∧ Qp s (nI p) (nI w) (nI d) k ∧ s 1 0 < s 21 k := by rw [← hd]; exact htk
      rw [show s 1 0 = nI d from hd]
      refine l_shows h hR hG hn8 (by omega) hp (by omega) (by omega) (fun r hr er => ⟨fun _ => ?_, fun y2 => absurd (er.mp (hr.resolve_left y2)) htk2⟩)
      refine ⟨o1, o2, p1, p2, ?_⟩
      rw [o3, p3]
      refine wr h 4 m (by omega) rfl (by show m < 40; omega) (fun u1 h1 => ?_)
      obtain ⟨o1', o2', o3'⟩ := rd h1 0 3 (by omega) (x := 3) rfl (by decide)
      obtain ⟨p1', p2', p3'⟩ := rd h1 0 0 (by omega) (x := 0) rfl (by decide)
      have o4 : mA u1 (B 4 0) (3 : Int32).toNatClampNeg = nI m := o3'.trans hR.1.2.2.2
      have p4 : mA u1 (B 4 0) (0 : Int32).toNatClampNeg = s 1 0 := p3'.trans hR.1.1
      refine ⟨o1', o2', p1', p2', ?_⟩
      refine l_days h1 hp (r3.trans ea) (r4.trans eb) (r5.trans ec) ⟨ha1, ha2⟩ ⟨hb1, hb2⟩ ⟨hc1, hc2⟩ ?_
      rw [o4, p4]
      refine wr h1 5 m (by omega) rfl (by show m < 40; omega) (fun u2 h2 => ?_)
      obtain ⟨o1'', o2'', o3''⟩ := rd h2 0 3 (by omega) (x := 3) rfl (by decide)
      have o5 : mA u2 (B 4 0) (3 : Int32).toNatClampNeg = nI m := o3''.trans hR.1.2.2.2
      refine ⟨o1'', o2'', ?_⟩
      rw [o5]
      refine wr h2 0 3 (by omega) rfl (by decide) (fun u3 h3 => ?_)
      refine hK _ _ h3 (Rel_eq (R_pic hR (nI p) (nI w) (s 1 0) (s 1 0 + nI (med a b c))) rfl ?_)
      rw [nI_1 m]
theorem endStep {w e p : Nat} (hW : Iw s n m) (hQ : Qs s n) (hG : Qg s n m) (hB : Qb s n m w) (hw : w < n) (he : e < 4) (z14 : s 14 w = nI e) (z7 : s 7 e = nI p) (hp : p < 8) (z13 : s 13 w = 2) : ∃ (s' : Nat → Nat → Int32) (x : Nat), x ≤ 1 ∧ Iw s' n m ∧ Qi s' n m ∧ Clk s' s ∧ kf s' m = kf s m ∧
    (∀ (B : Nat → Nat → Nat) (G : Ctx) (t : Nat → Nat → Nat) (ka : List Nat) (σ : Nat → Nat → Int32) (u : Mem) (K : Int32 → Mem → Prop), S2 B G s t ka σ u → t 3 0 = n → (∀ u', S2 B G s' t ka σ u' → K (nI x) u') → w_X5_endIfThere G (t 0 w) (B 3 e) u K) ∧
    (∀ (B : Nat → Nat → Nat) (G : Ctx) (t : Nat → Nat → Nat) (ka : List Nat) (σ z : Nat → Nat → Int32) (u : Mem) (K : Int32 → Mem → Prop), S2 B G σ t ka z u → Rel s n m z → (∀ z' u', S2 B G σ t ka z' u' → Rel s' n m z' → K (nI x) u') → w_L_goes_258 G (nI w) (B 4 1) (B 4 2) (B 4 3) (B 4 4) (B 4 5) (B 4 0) K (nI (3 * e)) (nI p) u) := by
  obtain ⟨f, d, hf, hd, e11, e12⟩ := hW.2.2.2.2.2.2.1 w hw
  have hn8 : n ≤ 8 := hQ.1
  obtain ⟨e2, he2, y14, hbusy⟩ := hQ.2.2.2.1 w hw (.inr z13)
  have ee : e2 = e := nI8 (by omega) (by omega) (y14.symm.trans z14)
  subst ee
  have v2 : (3 : Int32) * nI e2 = nI (3 * e2) := j3 e2
  have w2 : nI (3 * e2) + 2 = nI (3 * e2 + 2) := nI_add _ 2
  by_cases hpd : nI p = s 12 w
  · refine ⟨up2 (up2 s 13 w 3) 9 e2 0, 1, Nat.le_refl _, Iw_st (I_9 (I_13 hW w 3 hw (.inr (.inr rfl)) ⟨e2, he, z14⟩) e2 0) (kf_cong m rfl (fun j => rfl)), ⟨Qs_end hQ hw he (.inr z13) z14 0, Qg_cong hG (fun k hk => by funext i; rw [up2_at, if_neg (by omega), up2_at, if_neg (by omega)]), Qb_end hB 0 hw⟩, ⟨rfl, rfl⟩, kf_cong m rfl (fun j => rfl), fun B G t ka σ u K h e0 hK => ?_, fun B G t ka σ z u K h hR hK => ?_⟩
    · have hw' : w < t 3 0 := by omega
      have g := fe h he
      have gw := fw h hw'
      refine ⟨g.2.1, gw.1, ?_⟩
      rw [g.2.2.2.1, gw.2.2.2.1, z7]
      refine ⟨fun _ => ⟨gw.1, fun u2 h2 => ?_⟩, fun y => absurd hpd y⟩
      have hS := S_wstate h hw' 3
      rw [← h2] at hS
      refine ⟨(fe hS he).2.1, .inr rfl, fun u3 h3 => ?_⟩
      rw [h3]
      exact hK _ (S_ebusy hS he 0 1 (by simp))
    · obtain ⟨o1, o2, o3⟩ := rd h 3 (6 * w + 1) (by omega) (j61 w) (by show 6 * w + 1 < 48; omega)
      rw [(hR.2.2.2.1 w hw).2.1] at o3
      refine ⟨o1, o2, ?_⟩
      rw [o3]
      refine ⟨fun _ => ⟨fun y => absurd y (by decide), fun _ => ?_⟩, fun y => absurd hpd y⟩
      refine wr h 3 (6 * w + 2) (by omega) (j62 w) (by show 6 * w + 2 < 48; omega) (fun u1 h1 => ⟨fun y => absurd y (by decide), fun _ => ?_⟩)
      refine wr h1 2 (3 * e2 + 2) (by omega) w2 (by show 3 * e2 + 2 < 12; omega) (fun u2 h2 => ⟨.inr rfl, ?_⟩)
      exact hK _ _ h2 (R_9 (R_13 hR hw 3) he (.inl ⟨rfl, rfl⟩))
  · refine ⟨s, 0, by omega, hW, ⟨hQ, hG, Qb_on hB rfl hw z14 z7 e12 he hp hd (fun y => hpd (by rw [y, e12]))⟩, ⟨rfl, rfl⟩, rfl, fun B G t ka σ u K h e0 hK => ?_, fun B G t ka σ z u K h hR hK => ?_⟩
    · have hw' : w < t 3 0 := by omega
      have g := fe h he
      have gw := fw h hw'
      refine ⟨g.2.1, gw.1, ?_⟩
      rw [g.2.2.2.1, gw.2.2.2.1, z7]
      exact ⟨fun y => absurd y hpd, fun _ => hK u h⟩
    · obtain ⟨o1, o2, o3⟩ := rd h 3 (6 * w + 1) (by omega) (j61 w) (by show 6 * w + 1 < 48; omega)
      rw [(hR.2.2.2.1 w hw).2.1] at o3
      refine ⟨o1, o2, ?_⟩
      rw [o3]
      refine ⟨fun y => absurd y hpd, fun _ => ⟨fun _ => ?_, fun y => absurd rfl y⟩⟩
      refine wr h 3 (6 * w + 2) (by omega) (j62 w) (by show 6 * w + 2 < 48; omega) (fun u1 h1 => ⟨fun _ => ?_, fun y => absurd rfl y⟩)
      refine wr h1 2 (3 * e2 + 2) (by omega) w2 (by show 3 * e2 + 2 < 12; omega) (fun u2 h2 => ⟨.inl rfl, ?_⟩)
      refine hK _ _ h2 (Rel_eq (R_9 (v := s 9 e2) (R_13 hR hw 2) he (.inr ⟨hbusy, nI_pos (by omega)⟩)) ?_ rfl)
      rw [up2_id z13, up2_id rfl]
theorem seeEnd {w e p : Nat} (hW : Iw s n m) (hQ : Qs s n) (hG : Qg s n m) (hB : Qb s n (m + 1) w) (hw : w < n) (he : e < 4) (z14 : s 14 w = nI e) (z7 : s 7 e = nI p) (hp : p < 8) (z13 : s 13 w = 2) : ∃ (s' : Nat → Nat → Int32) (m' x : Nat), x ≤ 1 ∧ m ≤ m' ∧ m' ≤ 40 ∧ Iw s' n m' ∧ Qi s' n m' ∧ Clk s' s ∧
    (∀ (B : Nat → Nat → Nat) (G : Ctx) (t : Nat → Nat → Nat) (ka : List Nat) (σ : Nat → Nat → Int32) (u : Mem) (mc ms : Nat) (K : Int32 → Mem → Prop), S2 B G s t ka σ u → t 3 0 = n → t 3 1 = m → ka = kf s m → 3 * (m' - m) ≤ mc → 1000 * (m' - m) ≤ ms → (∀ t' u', S2 B G s' t' (kf s' m') σ u' → t' 3 0 = n → t' 3 1 = m' → (∀ w, t' 0 w = t 0 w) → K (nI x) u') → w_X5_see_48 G (B 0 0) (t 0 w) (nI p) (fun u61 => w_X5_endIfThere G (t 0 w) (B 3 e) u61 K) (B 1 p) mc ms u) ∧
    (∀ (B : Nat → Nat → Nat) (G : Ctx) (t : Nat → Nat → Nat) (ka : List Nat) (σ z : Nat → Nat → Int32) (u : Mem) (K : Int32 → Mem → Prop), S2 B G σ t ka z u → Rel s n m z → (∀ z' u', S2 B G σ t ka z' u' → Rel s' n m' z' → K (nI x) u') → L_pic G (nI w) (nI p) (B 4 1) (B 4 4) (B 4 5) (B 4 0) (fun u61 => w_L_goes_258 G (nI w) (B 4 1) (B 4 2) (B 4 3) (B 4 4) (B 4 5) (B 4 0) K (nI (3 * e)) (nI p) u61) u) := by
  have h40 := Qb_40 hB
  obtain ⟨s1, m', h1, h2, hW1, hG1, hsm, hc1, hr1⟩ := see48 hW hQ hG (by omega) hp hw
  have hQ1 : Qs s1 n := Qs_cong hQ (fun k hk => hsm k (by omega))
  have hB1 : Qb s1 n m' w := Qb_le (Qb_cong hB (fun k hk => hsm k (by omega))) h2
  obtain ⟨s', x, hx, hW2, hQ2, hz, hkf, hc2, hr2⟩ := endStep hW1 hQ1 hG1 hB1 hw he (by rw [hsm 14 (by omega)]; exact z14) (by rw [hsm 7 (by omega)]; exact z7) hp (by rw [hsm 13 (by omega)]; exact z13)
  refine ⟨s', m', x, hx, h1, by omega, hW2, hQ2, hz.trans ⟨by rw [hsm 2 (by omega)], by rw [hsm 1 (by omega)]⟩, fun B G t ka σ u mc ms K h e0 e1 ek q1 q2 hK => ?_, fun B G t ka σ z u K h hR hK => ?_⟩
  · refine hc1 B G t ka σ u mc ms _ h e0 e1 ek q1 q2 (fun t' u' hS n0 n1 nw => ?_)
    show w_X5_endIfThere G (t 0 w) (B 3 e) u' K
    rw [← nw w]
    exact hc2 B G t' (kf s1 m') σ u' K hS n0 (fun u2 hS2 => hK t' u2 (hkf ▸ hS2) n0 n1 nw)
  · exact hr1 B G t ka σ z u _ h hR (fun z' u' hS hR' => hr2 B G t ka σ z' u' K hS hR' hK)
theorem seeW {w e : Nat} (hW : Iw s n m) (hQ : Qs s n) (hG : Qg s n m) (hB : Qb s n (m + 1) w) (hw : w < n) (he : e < 4) (z14 : s 14 w = nI e) (z13 : s 13 w = 2) : ∃ (s' : Nat → Nat → Int32) (m' x : Nat), x ≤ 1 ∧ m ≤ m' ∧ m' ≤ 40 ∧ Iw s' n m' ∧ Qi s' n m' ∧ Clk s' s ∧
    (∀ (B : Nat → Nat → Nat) (G : Ctx) (t : Nat → Nat → Nat) (ka : List Nat) (σ : Nat → Nat → Int32) (u : Mem) (mc ms : Nat) (K : Int32 → Mem → Prop), S2 B G s t ka σ u → t 3 0 = n → t 3 1 = m → ka = kf s m → 3 * (m' - m) ≤ mc → 1000 * (m' - m) ≤ ms → (∀ t' u', S2 B G s' t' (kf s' m') σ u' → t' 3 0 = n → t' 3 1 = m' → (∀ w, t' 0 w = t 0 w) → K (nI x) u') → w_X5_see G (B 0 0) (t 0 w) (s 7 e) mc ms u (fun u61 => w_X5_endIfThere G (t 0 w) (B 3 e) u61 K)) ∧
    (∀ (B : Nat → Nat → Nat) (G : Ctx) (t : Nat → Nat → Nat) (ka : List Nat) (σ z : Nat → Nat → Int32) (u : Mem) (K : Int32 → Mem → Prop), S2 B G σ t ka z u → Rel s n m (up2 z 3 (6 * w + 2) 2) → (∀ z' u', S2 B G σ t ka z' u' → Rel s' n m' z' → K (nI x) u') → w_L_goes_79 G (nI w) (B 4 1) (B 4 2) (B 4 3) (B 4 4) (B 4 5) (B 4 0) K (nI (3 * e)) u) := by
  obtain ⟨p, hp, z7⟩ := hW.2.2.2.2.1 e he
  obtain ⟨pp, hpp, e3⟩ := hW.2.1 p hp
  obtain ⟨cc, hcc, e4⟩ := hW.2.2.1 p hp
  have hn8 : n ≤ 8 := hQ.1
  rw [z7]
  have iff1 : (nI pp < nI cc) ↔ pp < cc := nI_ltI (by omega) (by omega)
  -- the law up to the light
  have lpre : ∀ (B : Nat → Nat → Nat) (G : Ctx) (t : Nat → Nat → Nat) (ka : List Nat) (σ z : Nat → Nat → Int32) (u : Mem) (K : Int32 → Mem → Prop), S2 B G σ t ka z u → Rel s n m (up2 z 3 (6 * w + 2) 2) → (∀ u1, S2 B G σ t ka (up2 z 3 (6 * w + 2) 2) u1 → (pp < cc → w_L_goes_118 G (nI w) (B 4 1) (B 4 2) (B 4 3) (B 4 4) (B 4 5) (B 4 0) K (nI (3 * e)) (nI p) 0 u1) ∧ (¬ pp < cc → w_L_goes_118 G (nI w) (B 4 1) (B 4 2) (B 4 3) (B 4 4) (B 4 5) (B 4 0) K (nI (3 * e)) (nI p) 1 u1)) → w_L_goes_79 G (nI w) (B 4 1) (B 4 2) (B 4 3) (B 4 4) (B 4 5) (B 4 0) K (nI (3 * e)) u := by
    intro B G t ka σ z u K h hR hK
    refine wr h 3 (6 * w + 2) (by omega) (j62 w) (by show 6 * w + 2 < 48; omega) (fun u1 h1 => ?_)
    obtain ⟨o1, o2, o3⟩ := rd h1 2 (3 * e) (by omega) (x := nI (3 * e)) rfl (by show 3 * e < 12; omega)
    rw [(hR.2.2.1 e he).1, z7] at o3
    obtain ⟨a1, a2, a3⟩ := rd h1 1 (6 * p) (by omega) (j6 p) (by show 6 * p < 48; omega)
    obtain ⟨b1, b2, b3⟩ := rd h1 1 (6 * p + 1) (by omega) (j61 p) (by show 6 * p + 1 < 48; omega)
    rw [(hR.2.1 p hp).1, e3] at a3
    rw [(hR.2.1 p hp).2.1, e4] at b3
    refine ⟨o1, o2, ?_⟩
    rw [o3]
    refine ⟨a1, a2, b1, b2, ?_⟩
    rw [a3, b3, iff1]
    exact hK u1 h1
  by_cases hlt : pp < cc
  · obtain ⟨s', m', x, hx, h1, h2, hW2, hQ2, hz, hc, hr⟩ := seeEnd (s := up2 s 15 w (s 15 w + 1)) (Iw_st (I_15 hW w _ hw) (kf_cong m rfl (fun j => rfl))) (Qs_cong hQ (fun k hk => by funext i; rw [up2_at, if_neg (by omega)])) (Qg_cong hG (fun k hk => by funext i; rw [up2_at, if_neg (by omega)])) (Qb_cong hB (fun k hk => by funext i; rw [up2_at, if_neg (by omega)])) hw he z14 z7 hp z13
    have hk1 : kf (up2 s 15 w (s 15 w + 1)) m = kf s m := kf_cong m rfl (fun j => rfl)
    refine ⟨s', m', x, hx, h1, h2, hW2, hQ2, hz, fun B G t ka σ u mc ms K h n0 n1 ek q1 q2 hK => ?_, fun B G t ka σ z u K h hR hK => lpre B G t ka σ z u K h hR (fun u1 hu1 => ⟨fun _ => ?_, fun y => absurd hlt y⟩)⟩
    · have hw' : w < t 3 0 := by omega
      refine ⟨(fd h).1, c_str h hp ⟨fun y => (by cases y), fun a3 h3 => ?_⟩⟩
      have h3 := (Option.some.inj h3).symm
      subst h3
      have g := fs h hp
      have gw := fw h hw'
      refine ⟨g.2.1, g.2.1, ?_⟩
      rw [g.2.2.1, g.2.2.2.1, e3, e4, iff1]
      refine ⟨fun _ => ⟨gw.1, gw.1, fun u5 h5 => ?_⟩, fun y => absurd hlt y⟩
      rw [h5, gw.2.2.2.2.2.2.1]
      exact hc B G t ka σ _ mc ms K (S_wdark h hw' _) n0 n1 (hk1 ▸ ek) q1 q2 hK
    · obtain ⟨a1, a2, a3⟩ := rd hu1 1 (6 * p) (by omega) (j6 p) (by show 6 * p < 48; omega)
      rw [(hR.2.1 p hp).1] at a3
      refine ⟨a1, a2, fun _ => ?_, fun y => absurd rfl y⟩
      rw [a3]
      refine wr hu1 1 (6 * p) (by omega) (j6 p) (by show 6 * p < 48; omega) (fun u2 hu2 => ?_)
      have ez : up2 (up2 z 3 (6 * w + 2) 2) 1 (6 * p) (s 3 p - 0) = up2 z 3 (6 * w + 2) 2 := up2_id (by rw [Int32.sub_zero]; exact (hR.2.1 p hp).1)
      rw [ez] at hu2
      obtain ⟨b1, b2, b3⟩ := rd hu2 3 (6 * w + 4) (by omega) (j64 w) (by show 6 * w + 4 < 48; omega)
      rw [(hR.2.2.2.1 w hw).2.2.2.2.1] at b3
      refine ⟨b1, b2, fun _ => ?_, fun y => absurd rfl y⟩
      rw [b3]
      refine wr hu2 3 (6 * w + 4) (by omega) (j64 w) (by show 6 * w + 4 < 48; omega) (fun u3 hu3 => ?_)
      exact hr B G t ka σ _ u3 K hu3 (R_15 hR hw (s 15 w + 1)) hK
  · obtain ⟨s', m', x, hx, h1, h2, hW2, hQ2, hz, hc, hr⟩ := seeEnd (s := up2 s 3 p (nI (pp - cc))) (Iw_st (I_3 hW p _ ⟨pp - cc, by omega, rfl⟩) (kf_cong m rfl (fun j => rfl))) (Qs_cong hQ (fun k hk => by funext i; rw [up2_at, if_neg (by omega)])) (Qg_cong hG (fun k hk => by funext i; rw [up2_at, if_neg (by omega)])) (Qb_cong hB (fun k hk => by funext i; rw [up2_at, if_neg (by omega)])) hw he z14 z7 hp z13
    have hk1 : kf (up2 s 3 p (nI (pp - cc))) m = kf s m := kf_cong m rfl (fun j => rfl)
    refine ⟨s', m', x, hx, h1, h2, hW2, hQ2, hz, fun B G t ka σ u mc ms K h n0 n1 ek q1 q2 hK => ?_, fun B G t ka σ z u K h hR hK => lpre B G t ka σ z u K h hR (fun u1 hu1 => ⟨fun y => absurd y hlt, fun _ => ?_⟩)⟩
    · refine ⟨(fd h).1, c_str h hp ⟨fun y => (by cases y), fun a3 h3 => ?_⟩⟩
      have h3 := (Option.some.inj h3).symm
      subst h3
      have g := fs h hp
      refine ⟨g.2.1, g.2.1, ?_⟩
      rw [g.2.2.1, g.2.2.2.1, e3, e4, iff1]
      refine ⟨fun y => absurd y hlt, fun _ => ⟨g.2.1, g.2.1, g.2.1, fun u5 h5 => ?_⟩⟩
      rw [h5, pk_sub (by omega)]
      exact hc B G t ka σ _ mc ms K (S_purse h hp _) n0 n1 (hk1 ▸ ek) q1 q2 hK
    · obtain ⟨a1, a2, a3⟩ := rd hu1 1 (6 * p) (by omega) (j6 p) (by show 6 * p < 48; omega)
      obtain ⟨b1, b2, b3⟩ := rd hu1 1 (6 * p + 1) (by omega) (j61 p) (by show 6 * p + 1 < 48; omega)
      rw [(hR.2.1 p hp).1, e3] at a3
      rw [(hR.2.1 p hp).2.1, e4] at b3
      refine ⟨a1, a2, fun y => absurd y (by decide), fun _ => ⟨b1, b2, ?_⟩⟩
      rw [a3, b3]
      refine wr hu1 1 (6 * p) (by omega) (j6 p) (by show 6 * p < 48; omega) (fun u2 hu2 => ?_)
      rw [pk_sub (by omega)] at hu2
      have hR2 := R_3 hR hp (nI (pp - cc))
      obtain ⟨c1, c2, c3⟩ := rd hu2 3 (6 * w + 4) (by omega) (j64 w) (by show 6 * w + 4 < 48; omega)
      rw [(hR2.2.2.2.1 w hw).2.2.2.2.1] at c3
      refine ⟨c1, c2, fun y => absurd y (by decide), fun _ => ?_⟩
      rw [c3]
      refine wr hu2 3 (6 * w + 4) (by omega) (j64 w) (by show 6 * w + 4 < 48; omega) (fun u3 hu3 => ?_)
      rw [Int32.add_zero] at hu3
      rw [up2_id (hR2.2.2.2.1 w hw).2.2.2.2.1] at hu3
      exact hr B G t ka σ _ u3 K hu3 hR2 hK
end S2G
