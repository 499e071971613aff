section S2P
variable {B : Nat → Nat → Nat} {G : Ctx} {s s2 : Nat → Nat → Int32} {t : Nat → Nat → Nat} {ka : List Nat} {u : Mem}
def kf (s : Nat → Nat → Int32) (m : Nat) : List Nat := (List.range m).filter (fun j => decide (s 1 0 < s 21 j))
def Iw (s : Nat → Nat → Int32) (n m : Nat) : Prop := Iv s (fun _ i => if i = 0 then n else m) (kf s m)
theorem Iw_of (h : Iv s t ka) : Iw s (t 3 0) (t 3 1) := by
  obtain ⟨⟨j0, j1, j2, j3, j4, j5⟩, i1, i2, i3, i4, i5, i6, i7, i8, i9, i10⟩ := h
  exact ⟨⟨j0, j1, j2, j3, j4, j5⟩, i1, i2, i3, i4, i5, i6, i7, i8, i9, rfl⟩
theorem Iv_of {n m : Nat} (h : Iw s n m) (e0 : t 3 0 = n) (e1 : t 3 1 = m) (ek : ka = kf s m) : Iv s t ka := by
  obtain ⟨⟨j0, j1, j2, j3, j4, j5⟩, i1, i2, i3, i4, i5, i6, i7, i8, i9, i10⟩ := h
  unfold Iv
  rw [e0, e1, ek]
  exact ⟨⟨j0, j1, j2, j3, j4, j5⟩, i1, i2, i3, i4, i5, i6, i7, i8, i9, rfl⟩
theorem ka_of (h : Iv s t ka) : ka = kf s (t 3 1) := h.2.2.2.2.2.2.2.2.2.2
def pmem (u : Mem) (q : Nat) (a b c d : Int32) : Mem := setI (setI (setI (setI (mNew u q 3 0) 96 q a) 97 q b) 98 q c) 99 q d
theorem c_pic {q : Nat} {a b c d : Int32} {K : Mem → Prop} (hK : K (pmem u q a b c d)) : w_X2_init G q a b c d (mNew u q 3 0) K := by
  simp [w_X2_init, gO_setI, gO_self]
  exact hK
theorem pmem_ext {q : Nat} {a b c d : Int32} (hq : q ∉ mL u) : Ext u (pmem u q a b c d) := ((((Ext.rf.new hq).setI hq _ _).setI hq _ _).setI hq _ _).setI hq _ _
theorem pmem_at {q : Nat} {a b c d : Int32} : OB (pmem u q a b c d) q 3 ∧ mI (pmem u q a b c d) 96 q = a ∧ mI (pmem u q a b c d) 97 q = b ∧ mI (pmem u q a b c d) 98 q = c ∧ mI (pmem u q a b c d) 99 q = d := by
  unfold pmem
  refine ⟨?_, ?_, ?_, ?_, ?_⟩
  · exact (gO_self : OB (mNew u q 3 0) q 3)
  · rw [gsn (by decide), gsn (by decide), gsn (by decide), gse]
  · rw [gsn (by decide), gsn (by decide), gse]
  · rw [gsn (by decide), gse]
  · rw [gse]
def s_pic (s : Nat → Nat → Int32) (m : Nat) (a b c d : Int32) : Nat → Nat → Int32 := up2 (up2 (up2 (up2 (up2 s 18 m a) 19 m b) 20 m c) 21 m d) 17 0 (nI (m + 1))
theorem c_take (h : S2 B G s t ka s2 u) (hI : Iv s t ka) {a b d : Int32} {mc ms : Nat} (hm : t 3 1 < 300) (hno : ¬ ∃ k, k < t 3 1 ∧ Qp s a b (s 1 0) k ∧ s 1 0 < s 21 k) (hmc : 3 ≤ mc) (hms : 1000 ≤ ms) {K : Mem → Prop} (hK : ∀ t' u', S2 B G (s_pic s (t 3 1) a b (s 1 0) d) t' (ka ++ [t 3 1]) s2 u' → t' 3 0 = t 3 0 → t' 3 1 = t 3 1 + 1 → (∀ w, t' 0 w = t 0 w) → K u') : w_X0_take G (B 0 6) a b (s 1 0) d mc ms u K := by
  obtain ⟨f1, f2, f3, f4, f5, f6, f7, f8, f9, f10, f11, f12, f13, f14, f15, f16, f17, f18, f19, f20, f21, f22⟩ := fd h
  have e3 : ¬ ((300 : Int32) ≤ nI (t 3 1)) := nI_ge (a := t 3 1) (b := 300) (by omega) (by omega)
  refine ⟨f12, fun r hr => ⟨_, hr.trans f13, f16, f16, ?_⟩⟩
  rw [f19]
  refine ⟨fun z => absurd z e3, fun _ => ⟨f12, c_keeps h (ka_len hI) (fun r hr e => ⟨fun _ => ⟨by omega, by omega, fun q hq u10 h10 => ?_⟩, fun z => ?_⟩)⟩⟩
  · rw [h10]
    refine c_pic ?_
    have hS := S_ext h (pmem_ext (a := a) (b := b) (c := s 1 0) (d := d) hq)
    obtain ⟨k1, k2, k3, k4, k5⟩ := pmem_at (u := u) (q := q) (a := a) (b := b) (c := s 1 0) (d := d)
    generalize pmem u q a b (s 1 0) d = u11 at hS k1 k2 k3 k4 k5
    have g := fd hS
    refine ⟨g.2.2.2.2.2.2.2.2.2.2.2.1, fun r hr => ⟨_, hr.trans g.2.2.2.2.2.2.2.2.2.2.2.2.1, 1, 450, by omega, by omega, g.2.2.2.2.2.2.2.2.2.2.2.2.2.2.2.1, ?_⟩⟩
    refine a_list1 hS (.inr k1) (by omega) (Nat.le_refl _) (Nat.le_refl _) (fun t' u' hS' ht hc' hb hO hM => ?_)
    have f3' : t' 3 0 = t 3 0 := ht 3 0 (by omega) (by omega)
    have f31 : t' 3 1 = t 3 1 := ht 3 1 (by omega) (by omega)
    have hqm := k1.1
    have hC := S_cpaper hS' (e := q) (c0 := a) (c1 := b) (c2 := s 1 0) (c3 := d) (by rw [f31]; exact hc') (by rw [f31]; exact hb) (hO _ _ k1) (by rw [(hM _ _ (by omega) hqm).1, k2]) (by rw [(hM _ _ (by omega) hqm).1, k3]) (by rw [(hM _ _ (by omega) hqm).1, k4]) (by rw [(hM _ _ (by omega) hqm).1, k5]) (fun w hw e2 => ?_)
    · rw [f31] at hC
      have hob : OB (setI u' 2 (B 0 7) (nI (t 3 1 + 1))) q 3 := hO _ _ k1
      generalize setI u' 2 (B 0 7) (nI (t 3 1 + 1)) = u15 at hC hob
      have e13 : tu (tu t' 1 (t 3 1) q) 3 1 (t 3 1 + 1) 3 1 = t 3 1 + 1 := by simp [tu_at]
      have e10 : tu (tu t' 1 (t 3 1) q) 3 1 (t 3 1 + 1) 3 0 = t 3 0 := by simp [tu_at, f3']
      have e1q : tu (tu t' 1 (t 3 1) q) 3 1 (t 3 1 + 1) 1 (t 3 1) = q := by simp [tu_at]
      have e00 : ∀ w, tu (tu t' 1 (t 3 1) q) 3 1 (t 3 1 + 1) 0 w = t 0 w := fun w => by simp [tu_at, ht 0 w (by omega) (by omega)]
      generalize tu (tu t' 1 (t 3 1) q) 3 1 (t 3 1 + 1) = t1 at hC e13 e10 e1q e00
      have g := fd hC
      refine ⟨g.2.2.2.2.2.2.2.2.2.2.2.1, fun r hr => ⟨_, hr.trans g.2.2.2.2.2.2.2.2.2.2.2.2.2.1, 1, 450, by omega, by omega, g.2.2.2.2.2.2.2.2.2.2.2.2.2.2.2.2.1, ?_⟩⟩
      refine a_list2 hC (.inr hob) (ka_len hI) (Nat.le_refl _) (Nat.le_refl _) (fun t2 u2 hS2 ht2 hc2 hb2 hO2 hM2 => ?_)
      have n0 : t2 3 0 = t 3 0 := (ht2 3 0 (by omega) (by omega)).trans e10
      have n1 : t2 3 1 = t 3 1 + 1 := (ht2 3 1 (by omega) (by omega)).trans e13
      have nq : t2 1 (t 3 1) = q := (ht2 1 _ (by omega) (by omega)).trans e1q
      exact hK _ _ (S_ckept hS2 (j := t 3 1) hc2 (by omega) (by rw [hb2, nq])) n0 n1 (fun w => (ht2 0 w (by omega) (by omega)).trans (e00 w))
    · rw [ht 1 w (by omega) (by omega)] at e2
      rw [f31] at hw
      exact hq (e2 ▸ (fp h hw).1.1)
  · exact absurd (e.mp (hr.resolve_left z)) (fun y => hno (by
      obtain ⟨k, k1, k2⟩ := kmem.mp y
      exact ⟨k, ((ka_iff hI).mp k1).1, k2, ((ka_iff hI).mp k1).2⟩))
theorem c_takeN (h : S2 B G s t ka s2 u) (hI : Iv s t ka) {a b d : Int32} {mc ms : Nat} (hno : t 3 1 = 300 ∨ ∃ k, k < t 3 1 ∧ Qp s a b (s 1 0) k ∧ s 1 0 < s 21 k) {K : Mem → Prop} (hK : K u) : w_X0_take G (B 0 6) a b (s 1 0) d mc ms u K := by
  obtain ⟨f1, f2, f3, f4, f5, f6, f7, f8, f9, f10, f11, f12, f13, f14, f15, f16, f17, f18, f19, f20, f21, f22⟩ := fd h
  refine ⟨f12, fun r hr => ⟨_, hr.trans f13, f16, f16, ?_⟩⟩
  rw [f19]
  refine ⟨fun _ => hK, fun z => ⟨f12, c_keeps h (ka_len hI) (fun r hr e => ⟨fun z2 => ?_, fun _ => hK⟩)⟩⟩
  rcases hno with y | ⟨k, k1, k2, k3⟩
  · exact absurd (by rw [y]; decide) z
  · have := e.mpr (kmem.mpr ⟨k, (ka_iff hI).mpr ⟨k1, k3⟩, k2⟩)
    rw [this] at z2; exact absurd z2 (by decide)
theorem kf_cong {s' : Nat → Nat → Int32} (m : Nat) (h1 : s' 1 0 = s 1 0) (h2 : ∀ j, s' 21 j = s 21 j) : kf s' m = kf s m := by
  unfold kf
  refine List.filter_congr (fun j _ => ?_)
  rw [h1, h2]
theorem Iw_st {s' : Nat → Nat → Int32} {n m : Nat} (h : Iv s' (fun _ i => if i = 0 then n else m) (kf s m)) (e : kf s' m = kf s m) : Iw s' n m := by
  unfold Iw; rw [e]; exact h
theorem I_13 (h : Iv s t ka) (i : Nat) (v : Int32) (hi : i < t 3 0) (hv : v = 1 ∨ v = 2 ∨ v = 3) (he : ∃ e, e < 4 ∧ s 14 i = nI e) : Iv (up2 s 13 i v) t ka := by
  obtain ⟨i0, i1, i2, i3, i4, i5, i6, i7, i8, i9, i10⟩ := h
  refine ⟨i0, i1, i2, i3, i4, i5, i6, fun w hw => ?_, fun w hw => ?_, i9, i10⟩
  · by_cases e : w = i
    · subst e
      obtain ⟨e, he1, he2⟩ := he
      exact .inr ⟨e, he1, he2, by rw [up2_at, if_pos ⟨rfl, rfl⟩]; exact hv⟩
    · have := i7 w hw
      rw [up2_at, up2_at, if_neg (by omega), if_neg (fun z => e z.2)]; exact this
  · obtain ⟨y1, y2, y3⟩ := i8 w hw
    exact ⟨by rw [up2_at, if_neg (by omega)]; exact y1, y2, y3⟩
theorem I_send (h : Iv s t ka) {i e : Nat} (hi : i < t 3 0) (he : e < 4) : Iv (up2 (up2 (up2 s 14 i (nI e)) 13 i 1) 9 e 1) t ka := by
  obtain ⟨i0, i1, i2, i3, i4, i5, i6, i7, i8, i9, i10⟩ := h
  refine ⟨i0, i1, i2, i3, i4, i5, i6, fun w hw => ?_, fun w hw => ?_, i9, i10⟩
  · by_cases ew : w = i
    · subst ew
      exact .inr ⟨e, he, by simp [up2_at], by simp [up2_at]⟩
    · have := i7 w hw
      simpa [up2_at, ew] using this
  · have hw1 : t 3 0 ≤ w := hw
    have hne : w ≠ i := by omega
    simpa [up2_at, hne] using i8 w hw
theorem med_b {a b c : Nat} (ha : 1 ≤ a ∧ a ≤ 30) (hb : 1 ≤ b ∧ b ≤ 30) (hc : 1 ≤ c ∧ c ≤ 30) : 1 ≤ med a b c ∧ med a b c ≤ 90 := by
  unfold med; omega
theorem kf_pic {n m d x : Nat} {a b : Int32} (hd : s 1 0 = nI d) (hd1 : d ≤ 1000) (hx : 1 ≤ x ∧ x ≤ 90) : kf (s_pic s m a b (s 1 0) (s 1 0 + nI x)) (m + 1) = kf s m ++ [m] := by
  unfold kf
  rw [List.range_succ, List.filter_append]
  congr 1
  · refine List.filter_congr (fun j hj => ?_)
    have : j ≠ m := by have := List.mem_range.mp hj; omega
    simp [s_pic, up2_at, this]
  · have : nI d < nI d + nI x := by rw [nI_add, nI_ltI (by omega) (by omega)]; omega
    simp [s_pic, up2_at, hd, this]
theorem I_pic {n m d x : Nat} {a b : Int32} (h : Iw s n m) (hm : m < 300) (hd : s 1 0 = nI d) (hd1 : d ≤ 1000) (hx : 1 ≤ x ∧ x ≤ 90) : Iw (s_pic s m a b (s 1 0) (s 1 0 + nI x)) n (m + 1) := by
  obtain ⟨⟨j0, j1, j2, j3, j4, j5⟩, i1, i2, i3, i4, i5, i6, i7, i8, i9, i10⟩ := h
  refine ⟨⟨j0, by show m + 1 ≤ 300; omega, by simpa [s_pic, up2_at] using j2, by simp [s_pic, up2_at], by simpa [s_pic, up2_at] using j4, by simpa [s_pic, up2_at] using j5⟩, by simpa [s_pic, up2_at] using i1, by simpa [s_pic, up2_at] using i2, by simpa [s_pic, up2_at] using i3, by simpa [s_pic, up2_at] using i4, by simpa [s_pic, up2_at] using i5, by simpa [s_pic, up2_at] using i6, by simpa [s_pic, up2_at] using i7, by simpa [s_pic, up2_at] using i8, fun j hj => ?_, rfl⟩
  by_cases e : j = m
  · refine ⟨d + x, by omega, ?_⟩
    simp [s_pic, up2_at, e, hd, nI_add]
  · have hj : j < m + 1 := hj
    obtain ⟨y, hy, ey⟩ := i9 j (by show j < m; omega)
    exact ⟨y, hy, by simpa [s_pic, up2_at, e] using ey⟩
theorem I_2 {n m : Nat} (h : Iw s n m) (v : Int32) (hv : ∃ y, y ≤ 1000 ∧ v = nI y) : Iw (up2 s 2 0 v) n m := by
  obtain ⟨⟨j0, j1, j2, j3, j4, j5⟩, i1, i2, i3, i4, i5, i6, i7, i8, i9, i10⟩ := h
  refine Iw_st ⟨⟨j0, j1, j2, j3, j4, ?_⟩, i1, i2, i3, i4, i5, i6, i7, i8, i9, i10⟩ (kf_cong m rfl (fun j => rfl))
  obtain ⟨y, hy, e⟩ := hv
  exact ⟨y, hy, by rw [up2_at, if_pos ⟨rfl, rfl⟩]; exact e⟩
theorem pas1 {p c : Nat} (hp : p ≤ 1000) (hc : c ≤ 60) (h : p + c ≤ 1000) : nI p ≤ (1000 : Int32) - nI c ∧ nI p + nI c ≤ (1000 : Int32) := by
  have e : (1000 : Int32) = nI 1000 := rfl
  refine ⟨?_, ?_⟩
  · rw [e, pk_sub (by omega), nI_leI (by omega) (by omega)]; omega
  · rw [e, nI_add, nI_leI (by omega) (by omega)]; omega
theorem pas2 {p c : Nat} (hp : p ≤ 1000) (hc : c ≤ 60) (h : ¬ p + c ≤ 1000) : ¬ (nI p ≤ (1000 : Int32) - nI c) ∧ ¬ (nI p + nI c ≤ (1000 : Int32)) := by
  have e : (1000 : Int32) = nI 1000 := rfl
  refine ⟨?_, ?_⟩
  · rw [e, pk_sub (by omega), nI_leI (by omega) (by omega)]; omega
  · rw [e, nI_add, nI_leI (by omega) (by omega)]; omega
theorem Pt_p {q mc ms m' : Nat} (h : Pt (q + 1) mc ms t) (h1 : t 3 1 ≤ m') (h2 : m' ≤ 300) : 3 * (m' - t 3 1) ≤ mc ∧ 1000 * (m' - t 3 1) ≤ ms ∧ ∀ t' : Nat → Nat → Nat, t' 3 1 = m' → Pt q (mc - 3 * (m' - t 3 1)) (ms - 1000 * (m' - t 3 1)) t' := by
  unfold Pt at *
  refine ⟨by omega, by omega, fun t' e => ?_⟩
  rw [e]; omega
end S2P
