section S2P
variable {B : Nat → Nat → Nat} {G : Ctx} {s s2 : Nat → Nat → Int32} {t : Nat → Nat → Nat} {ka : List Nat} {u : Mem}
theorem kf_cong {s' : Nat → Nat → Int32} (m : Nat) (h1 : s' 1 0 = s 1 0) (h2 : ∀ j, s' 21 j = s 21 j) : kf s' m = kf s m := by
  unfold kf
  refine List.filter_congr (fun j _ => ?_)
  rw [h1, h2]
theorem Iw_st {s' : Nat → Nat → Int32} {n m : Nat} (h : Iv s' (fun _ i => if i = 0 then n else m) (kf s m)) (e : kf s' m = kf s m) : Iw s' n m := by
  unfold Iw; rw [e]; exact h
theorem I_13 (h : Iv s t ka) (i : Nat) (v : Int32) (hi : i < t 3 0) (hv : v = 1 ∨ v = 2 ∨ v = 3) (he : ∃ e, e < 4 ∧ s 14 i = nI e) : Iv (up2 s 13 i v) t ka := by
  obtain ⟨i0, i1, i2, i3, i4, i5, i6, i7, i8, i9, i10⟩ := h
  refine ⟨i0, i1, i2, i3, i4, i5, i6, fun w hw => ?_, fun w hw => ?_, i9, i10⟩
  · by_cases e : w = i
    · subst e
      obtain ⟨e, he1, he2⟩ := he
      exact .inr ⟨e, he1, he2, by rw [up2_at, if_pos ⟨rfl, rfl⟩]; exact hv⟩
    · have := i7 w hw
      rw [up2_at, up2_at, if_neg (by omega), if_neg (fun z => e z.2)]; exact this
  · obtain ⟨y1, y2, y3⟩ := i8 w hw
    exact ⟨by rw [up2_at, if_neg (by omega)]; exact y1, y2, y3⟩
theorem I_send (h : Iv s t ka) {i e : Nat} (hi : i < t 3 0) (he : e < 4) : Iv (up2 (up2 (up2 s 14 i (nI e)) 13 i 1) 9 e 1) t ka := by
  obtain ⟨i0, i1, i2, i3, i4, i5, i6, i7, i8, i9, i10⟩ := h
  refine ⟨i0, i1, i2, i3, i4, i5, i6, fun w hw => ?_, fun w hw => ?_, i9, i10⟩
  · by_cases ew : w = i
    · subst ew
      exact .inr ⟨e, he, by simp [up2_at], by simp [up2_at]⟩
    · have := i7 w hw
      simpa [up2_at, ew] using this
  · have hw1 : t 3 0 ≤ w := hw
    have hne : w ≠ i := by omega
    simpa [up2_at, hne] using i8 w hw
theorem med_b {a b c : Nat} (ha : 1 ≤ a ∧ a ≤ 30) (hb : 1 ≤ b ∧ b ≤ 30) (hc : 1 ≤ c ∧ c ≤ 30) : 1 ≤ med a b c ∧ med a b c ≤ 90 := by
  unfold med; omega
theorem kf_pic {n m d x : Nat} {a b : Int32} (hd : s 1 0 = nI d) (hd1 : d ≤ 1000) (hx : 1 ≤ x ∧ x ≤ 90) : kf (s_pic s m a b (s 1 0) (s 1 0 + nI x)) (m + 1) = kf s m ++ [m] := by
  unfold kf
  rw [List.range_succ, List.filter_append]
  congr 1
  · refine List.filter_congr (fun j hj => ?_)
    have : j ≠ m := by have := List.mem_range.mp hj; omega
    simp [s_pic, up2_at, this]
  · have : nI d < nI d + nI x := by rw [nI_add, nI_ltI (by omega) (by omega)]; omega
    simp [s_pic, up2_at, hd, this]
theorem I_pic {n m d x : Nat} {a b : Int32} (h : Iw s n m) (hm : m < 300) (hd : s 1 0 = nI d) (hd1 : d ≤ 1000) (hx : 1 ≤ x ∧ x ≤ 90) : Iw (s_pic s m a b (s 1 0) (s 1 0 + nI x)) n (m + 1) := by
  obtain ⟨⟨j0, j1, j2, j3, j4, j5⟩, i1, i2, i3, i4, i5, i6, i7, i8, i9, i10⟩ := h
  refine ⟨⟨j0, by show m + 1 ≤ 300; omega, by simpa [s_pic, up2_at] using j2, by simp [s_pic, up2_at], by simpa [s_pic, up2_at] using j4, by simpa [s_pic, up2_at] using j5⟩, by simpa [s_pic, up2_at] using i1, by simpa [s_pic, up2_at] using i2, by simpa [s_pic, up2_at] using i3, by simpa [s_pic, up2_at] using i4, by simpa [s_pic, up2_at] using i5, by simpa [s_pic, up2_at] using i6, by simpa [s_pic, up2_at] using i7, by simpa [s_pic, up2_at] using i8, fun j hj => ?_, rfl⟩
  by_cases e : j = m
  · refine ⟨d + x, by omega, ?_⟩
    simp [s_pic, up2_at, e, hd, nI_add]
  · have hj : j < m + 1 := hj
    obtain ⟨y, hy, ey⟩ := i9 j (by show j < m; omega)
    exact ⟨y, hy, by simpa [s_pic, up2_at, e] using ey⟩
theorem see48 {n m p w : Nat} (hW : Iw s n m) (hp : p < 8) (hw : w < n) : ∃ (s' : Nat → Nat → Int32) (m' : Nat), m ≤ m' ∧ m' ≤ 300 ∧ Iw s' n m' ∧ (∀ k, k < 17 → s' k = s k) ∧
    (∀ (B : Nat → Nat → Nat) (G : Ctx) (t : Nat → Nat → Nat) (ka : List Nat) (σ : Nat → Nat → Int32) (u : Mem) (mc ms : Nat) (K : Mem → Prop), S2 B G s t ka σ u → t 3 0 = n → t 3 1 = m → ka = kf s m → 3 * (m' - m) ≤ mc → 1000 * (m' - m) ≤ ms → (∀ t' u', S2 B G s' t' (kf s' m') σ u' → t' 3 0 = n → t' 3 1 = m' → (∀ w, t' 0 w = t 0 w) → K u') → w_X5_see_48 G (B 0 0) (t 0 w) (nI p) K (B 1 p) mc ms u) ∧
    (∀ (B : Nat → Nat → Nat) (G : Ctx) (t : Nat → Nat → Nat) (ka : List Nat) (σ : Nat → Nat → Int32) (u : Mem) (K : Mem → Prop), S2 B G σ t ka s u → (∀ u', S2 B G σ t ka s' u' → mI u' 224 (B 0 1) = mI u 224 (B 0 1) → mJ u' (B 0 2) 0 = mJ u (B 0 2) 0 → K u') → w_X6_takes G (B 0 1) (nI p) (nI w) u K) := by
  obtain ⟨d, hd1, hd⟩ := hW.1.2.2.2.2.1
  obtain ⟨a, ha1, ha2, ea⟩ := hW.2.2.2.1 (3 * p) (by omega)
  obtain ⟨b, hb1, hb2, eb⟩ := hW.2.2.2.1 (3 * p + 1) (by omega)
  obtain ⟨c, hc1, hc2, ec⟩ := hW.2.2.2.1 (3 * p + 2) (by omega)
  have hx := med_b ⟨ha1, ha2⟩ ⟨hb1, hb2⟩ ⟨hc1, hc2⟩
  have hm3 : m ≤ 300 := hW.1.2.1
  have h17 : s 17 0 = nI m := hW.1.2.2.2.1
  by_cases hno : s 5 p = 0 ∨ m = 300 ∨ ∃ k, k < m ∧ Qp s (nI p) (nI w) (s 1 0) k ∧ s 1 0 < s 21 k
  · refine ⟨s, m, Nat.le_refl _, hm3, hW, fun k hk => rfl, fun B G t ka σ u mc ms K h e0 e1 ek _ _ hK => ?_, fun B G t ka σ u K h hK => m_takesN h hp h17 hm3 hno (hK u h rfl rfl)⟩
    have hKu : K u := hK t u (ek ▸ h) e0 e1 (fun _ => rfl)
    have hI := Iv_of hW e0 e1 ek
    obtain ⟨f1, f2, f3, f4, f5, f6, f7, f8, f9, f10, f11, f12, f13, f14, f15, f16, f17, f18, f19, f20, f21, f22⟩ := fd h
    have g := fs h hp
    refine ⟨g.2.1, ?_⟩
    rw [g.2.2.2.2.1]
    refine ⟨fun _ => hKu, fun z => ⟨f1, fun r hr => ⟨(fw h (by omega)).1, f1, f1, g.2.1, c_days h hp ea eb ec ⟨ha1, ha2⟩ ⟨hb1, hb2⟩ ⟨hc1, hc2⟩ ⟨_, hr.trans f5, 0, 0, Nat.zero_le _, Nat.zero_le _, f12, ?_⟩⟩⟩⟩
    rw [f6, (fw h (by omega : w < t 3 0)).2.1]
    refine c_takeN h hI ?_ hKu
    rw [e1]
    exact hno.resolve_left z
  · have hcam : ¬ s 5 p = 0 := fun z => hno (.inl z)
    have hm4 : m < 300 := by
      rcases Nat.lt_or_ge m 300 with z | z
      · exact z
      · exact absurd (.inr (.inl (by omega))) hno
    have htk : ¬ ∃ k, k < m ∧ Qp s (nI p) (nI w) (s 1 0) k ∧ s 1 0 < s 21 k := fun z => hno (.inr (.inr z))
    refine ⟨s_pic s m (nI p) (nI w) (s 1 0) (s 1 0 + nI (med a b c)), m + 1, by omega, by omega, I_pic hW hm4 hd hd1 hx, fun k hk => ?_, fun B G t ka σ u mc ms K h e0 e1 ek q1 q2 hK => ?_, fun B G t ka σ u K h hK => m_takes h hp h17 hm4 hcam htk ea eb ec ⟨ha1, ha2⟩ ⟨hb1, hb2⟩ ⟨hc1, hc2⟩ hK⟩
    · funext i
      simp only [s_pic, up2_at]
      rw [if_neg (by omega), if_neg (by omega), if_neg (by omega), if_neg (by omega), if_neg (by omega)]
    · have hI := Iv_of hW e0 e1 ek
      obtain ⟨f1, f2, f3, f4, f5, f6, f7, f8, f9, f10, f11, f12, f13, f14, f15, f16, f17, f18, f19, f20, f21, f22⟩ := fd h
      have g := fs h hp
      refine ⟨g.2.1, ?_⟩
      rw [g.2.2.2.2.1]
      refine ⟨fun z => absurd z hcam, fun z => ⟨f1, fun r hr => ⟨(fw h (by omega)).1, f1, f1, g.2.1, c_days h hp ea eb ec ⟨ha1, ha2⟩ ⟨hb1, hb2⟩ ⟨hc1, hc2⟩ ⟨_, hr.trans f5, 3, 1000, by omega, by omega, f12, ?_⟩⟩⟩⟩
      rw [f6, (fw h (by omega : w < t 3 0)).2.1]
      refine c_take h hI (by omega) (by rw [e1]; exact htk) (Nat.le_refl _) (Nat.le_refl _) (fun t' u' hS n0 n1 nw => ?_)
      rw [e1] at hS n1
      refine hK t' u' ?_ (by rw [n0, e0]) n1 nw
      rw [kf_pic (n := n) hd hd1 hx, ← ek]
      exact hS
end S2P
