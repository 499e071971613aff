section S2P
variable {B : Nat → Nat → Nat} {G : Ctx} {s s2 : Nat → Nat → Int32} {t : Nat → Nat → Nat} {ka : List Nat} {u : Mem}
def kf (s : Nat → Nat → Int32) (m : Nat) : List Nat := (List.range m).filter (fun j => decide (s 1 0 < s 21 j))
def Iw (s : Nat → Nat → Int32) (n m : Nat) : Prop := Iv s (fun _ i => if i = 0 then n else m) (kf s m)
theorem Iw_of (h : Iv s t ka) : Iw s (t 3 0) (t 3 1) := by
  obtain ⟨⟨j0, j1, j2, j3, j4, j5⟩, i1, i2, i3, i4, i5, i6, i7, i8, i9, i10⟩ := h
  exact ⟨⟨j0, j1, j2, j3, j4, j5⟩, i1, i2, i3, i4, i5, i6, i7, i8, i9, rfl⟩
theorem Iv_of {n m : Nat} (h : Iw s n m) (e0 : t 3 0 = n) (e1 : t 3 1 = m) (ek : ka = kf s m) : Iv s t ka := by
  obtain ⟨⟨j0, j1, j2, j3, j4, j5⟩, i1, i2, i3, i4, i5, i6, i7, i8, i9, i10⟩ := h
  unfold Iv
  rw [e0, e1, ek]
  exact ⟨⟨j0, j1, j2, j3, j4, j5⟩, i1, i2, i3, i4, i5, i6, i7, i8, i9, rfl⟩
theorem ka_of (h : Iv s t ka) : ka = kf s (t 3 1) := h.2.2.2.2.2.2.2.2.2.2
def pmem (u : Mem) (q : Nat) (a b c d : Int32) : Mem := setI (setI (setI (setI (mNew u q 3 0) 96 q a) 97 q b) 98 q c) 99 q d
theorem c_pic {q : Nat} {a b c d : Int32} {K : Mem → Prop} (hK : K (pmem u q a b c d)) : w_X2_init G q a b c d (mNew u q 3 0) K := by
  simp [w_X2_init, gO_setI, gO_self]
  exact hK
theorem pmem_ext {q : Nat} {a b c d : Int32} (hq : q ∉ mL u) : Ext u (pmem u q a b c d) := ((((Ext.rf.new hq).setI hq _ _).setI hq _ _).setI hq _ _).setI hq _ _
theorem pmem_at {q : Nat} {a b c d : Int32} : OB (pmem u q a b c d) q 3 ∧ mI (pmem u q a b c d) 96 q = a ∧ mI (pmem u q a b c d) 97 q = b ∧ mI (pmem u q a b c d) 98 q = c ∧ mI (pmem u q a b c d) 99 q = d := by
  unfold pmem
  refine ⟨?_, ?_, ?_, ?_, ?_⟩
  · exact (gO_self : OB (mNew u q 3 0) q 3)
  · rw [gsn (by decide), gsn (by decide), gsn (by decide), gse]
  · rw [gsn (by decide), gsn (by decide), gse]
  · rw [gsn (by decide), gse]
  · rw [gse]
def s_pic (s : Nat → Nat → Int32) (m : Nat) (a b c d : Int32) : Nat → Nat → Int32 := up2 (up2 (up2 (up2 (up2 s 18 m a) 19 m b) 20 m c) 21 m d) 17 0 (nI (m + 1))
theorem c_take (h : S2 B G s t ka s2 u) (hI : Iv s t ka) {a b d : Int32} {mc ms : Nat} (hm : t 3 1 < 300) (hno : ¬ ∃ k, k < t 3 1 ∧ Qp s a b (s 1 0) k ∧ s 1 0 < s 21 k) (hmc : 3 ≤ mc) (hms : 1000 ≤ ms) {K : Mem → Prop} (hK : ∀ t' u', S2 B G (s_pic s (t 3 1) a b (s 1 0) d) t' (ka ++ [t 3 1]) s2 u' → t' 3 0 = t 3 0 → t' 3 1 = t 3 1 + 1 → (∀ w, t' 0 w = t 0 w) → K u') : w_X0_take G (B 0 6) a b (s 1 0) d mc ms u K := by
  obtain ⟨f1, f2, f3, f4, f5, f6, f7, f8, f9, f10, f11, f12, f13, f14, f15, f16, f17, f18, f19, f20, f21, f22⟩ := fd h
  have e3 : ¬ ((300 : Int32) ≤ nI (t 3 1)) := nI_ge (a := t 3 1) (b := 300) (by omega) (by omega)
  refine ⟨f12, fun r hr => ⟨_, hr.trans f13, f16, f16, ?_⟩⟩
  rw [f19]
  refine ⟨fun z => absurd z e3, fun _ => ⟨f12, c_keeps h (ka_len hI) (fun r hr e => ⟨fun _ => ⟨by omega, by omega, fun q hq u10 h10 => ?_⟩, fun z => ?_⟩)⟩⟩
  · rw [h10]
    refine c_pic ?_
    have hS := S_ext h (pmem_ext (a := a) (b := b) (c := s 1 0) (d := d) hq)
    obtain ⟨k1, k2, k3, k4, k5⟩ := pmem_at (u := u) (q := q) (a := a) (b := b) (c := s 1 0) (d := d)
    generalize pmem u q a b (s 1 0) d = u11 at hS k1 k2 k3 k4 k5
    have g := fd hS
    refine ⟨g.2.2.2.2.2.2.2.2.2.2.2.1, fun r hr => ⟨_, hr.trans g.2.2.2.2.2.2.2.2.2.2.2.2.1, 1, 450, by omega, by omega, g.2.2.2.2.2.2.2.2.2.2.2.2.2.2.2.1, ?_⟩⟩
    refine a_list1 hS (.inr k1) (by omega) (Nat.le_refl _) (Nat.le_refl _) (fun t' u' hS' ht hc' hb hO hM => ?_)
    have f3' : t' 3 0 = t 3 0 := ht 3 0 (by omega) (by omega)
    have f31 : t' 3 1 = t 3 1 := ht 3 1 (by omega) (by omega)
    have hqm := k1.1
    have hC := S_cpaper hS' (e := q) (c0 := a) (c1 := b) (c2 := s 1 0) (c3 := d) (by rw [f31]; exact hc') (by rw [f31]; exact hb) (hO _ _ k1) (by rw [(hM _ _ (by omega) hqm).1, k2]) (by rw [(hM _ _ (by omega) hqm).1, k3]) (by rw [(hM _ _ (by omega) hqm).1, k4]) (by rw [(hM _ _ (by omega) hqm).1, k5]) (fun w hw e2 => ?_)
    · rw [f31] at hC
      have hob : OB (setI u' 2 (B 0 7) (nI (t 3 1 + 1))) q 3 := hO _ _ k1
      generalize setI u' 2 (B 0 7) (nI (t 3 1 + 1)) = u15 at hC hob
      have e13 : tu (tu t' 1 (t 3 1) q) 3 1 (t 3 1 + 1) 3 1 = t 3 1 + 1 := by simp [tu_at]
      have e10 : tu (tu t' 1 (t 3 1) q) 3 1 (t 3 1 + 1) 3 0 = t 3 0 := by simp [tu_at, f3']
      have e1q : tu (tu t' 1 (t 3 1) q) 3 1 (t 3 1 + 1) 1 (t 3 1) = q := by simp [tu_at]
      have e00 : ∀ w, tu (tu t' 1 (t 3 1) q) 3 1 (t 3 1 + 1) 0 w = t 0 w := fun w => by simp [tu_at, ht 0 w (by omega) (by omega)]
      generalize tu (tu t' 1 (t 3 1) q) 3 1 (t 3 1 + 1) = t1 at hC e13 e10 e1q e00
      have g := fd hC
      refine ⟨g.2.2.2.2.2.2.2.2.2.2.2.1, fun r hr => ⟨_, hr.trans g.2.2.2.2.2.2.2.2.2.2.2.2.2.1, 1, 450, by omega, by omega, g.2.2.2.2.2.2.2.2.2.2.2.2.2.2.2.2.1, ?_⟩⟩
      refine a_list2 hC (.inr hob) (ka_len hI) (Nat.le_refl _) (Nat.le_refl _) (fun t2 u2 hS2 ht2 hc2 hb2 hO2 hM2 => ?_)
      have n0 : t2 3 0 = t 3 0 := (ht2 3 0 (by omega) (by omega)).trans e10
      have n1 : t2 3 1 = t 3 1 + 1 := (ht2 3 1 (by omega) (by omega)).trans e13
      have nq : t2 1 (t 3 1) = q := (ht2 1 _ (by omega) (by omega)).trans e1q
      exact hK _ _ (S_ckept hS2 (j := t 3 1) hc2 (by omega) (by rw [hb2, nq])) n0 n1 (fun w => (ht2 0 w (by omega) (by omega)).trans (e00 w))
    · rw [ht 1 w (by omega) (by omega)] at e2
      rw [f31] at hw
      exact hq (e2 ▸ (fp h hw).1.1)
  · exact absurd (e.mp (hr.resolve_left z)) (fun y => hno (by
      obtain ⟨k, k1, k2⟩ := kmem.mp y
      exact ⟨k, ((ka_iff hI).mp k1).1, k2, ((ka_iff hI).mp k1).2⟩))
theorem c_takeN (h : S2 B G s t ka s2 u) (hI : Iv s t ka) {a b d : Int32} {mc ms : Nat} (hno : t 3 1 = 300 ∨ ∃ k, k < t 3 1 ∧ Qp s a b (s 1 0) k ∧ s 1 0 < s 21 k) {K : Mem → Prop} (hK : K u) : w_X0_take G (B 0 6) a b (s 1 0) d mc ms u K := by
  obtain ⟨f1, f2, f3, f4, f5, f6, f7, f8, f9, f10, f11, f12, f13, f14, f15, f16, f17, f18, f19, f20, f21, f22⟩ := fd h
  refine ⟨f12, fun r hr => ⟨_, hr.trans f13, f16, f16, ?_⟩⟩
  rw [f19]
  refine ⟨fun _ => hK, fun z => ⟨f12, c_keeps h (ka_len hI) (fun r hr e => ⟨fun z2 => ?_, fun _ => hK⟩)⟩⟩
  rcases hno with y | ⟨k, k1, k2, k3⟩
  · exact absurd (by rw [y]; decide) z
  · have := e.mpr (kmem.mpr ⟨k, (ka_iff hI).mpr ⟨k1, k3⟩, k2⟩)
    rw [this] at z2; exact absurd z2 (by decide)
theorem m_takesN (h : S2 B G s t ka s2 u) {m p w : Nat} (hp : p < 8) (hm : s2 17 0 = nI m) (hm3 : m ≤ 300) (hno : s2 5 p = 0 ∨ m = 300 ∨ ∃ k, k < m ∧ Qp s2 (nI p) (nI w) (s2 1 0) k ∧ s2 1 0 < s2 21 k) {K : Mem → Prop} (hK : K u) : w_X6_takes G (B 0 1) (nI p) (nI w) u K := by
  have f := (fm h).1
  have e241 : mI u 241 (B 0 1) = nI m := by rw [← hm]; exact (fm h).2.2.2.2.1
  have e225 : mI u 225 (B 0 1) = s2 1 0 := (fm h).2.1
  have r5 := fr h (k := 5) (by unfold ak; omega)
  refine ⟨f, fun r hr => ⟨_, hr.trans r5.1, r5.2.1, by rw [r5.2.2]; exact vp_in_nI hp (by decide), ?_⟩⟩
  rw [nIc hp (by decide : 8 < 2 ^ 31), (fa_s h hp).2.2, e241, e225]
  refine ⟨fun _ => hK, fun z => ⟨f, fun _ => hK, fun z3 => ⟨f, f, m_tk h hm hm3 (fun r hr e => ⟨fun z2 => ?_, fun _ => hK⟩)⟩⟩⟩
  rcases hno with y | y | y
  · exact absurd y z
  · exact absurd (by rw [y]; decide) z3
  · rw [e.mpr y] at z2; exact absurd z2 (by decide)
theorem m_takes (h : S2 B G s t ka s2 u) {m p w a b c : Nat} (hp : p < 8) (hm : s2 17 0 = nI m) (hm3 : m < 300) (hcam : ¬ s2 5 p = 0) (hno : ¬ ∃ k, k < m ∧ Qp s2 (nI p) (nI w) (s2 1 0) k ∧ s2 1 0 < s2 21 k) (ea : s2 6 (3 * p) = nI a) (eb : s2 6 (3 * p + 1) = nI b) (ec : s2 6 (3 * p + 2) = nI c) (ha : 1 ≤ a ∧ a ≤ 30) (hb : 1 ≤ b ∧ b ≤ 30) (hc : 1 ≤ c ∧ c ≤ 30) {K : Mem → Prop} (hK : ∀ u', S2 B G s t ka (s_pic s2 m (nI p) (nI w) (s2 1 0) (s2 1 0 + nI (med a b c))) u' → mI u' 224 (B 0 1) = mI u 224 (B 0 1) → mJ u' (B 0 2) 0 = mJ u (B 0 2) 0 → K u') : w_X6_takes G (B 0 1) (nI p) (nI w) u K := by
  have f := (fm h).1
  have e241 : mI u 241 (B 0 1) = nI m := by rw [← hm]; exact (fm h).2.2.2.2.1
  have e225 : mI u 225 (B 0 1) = s2 1 0 := (fm h).2.1
  have r5 := fr h (k := 5) (by unfold ak; omega)
  have e3 : ¬ ((300 : Int32) ≤ nI m) := nI_ge (a := m) (b := 300) (by omega) (by omega)
  have wv := vp_in_nI (n := m) (N := 300) (by omega) (by decide)
  have cl := nIc (i := m) (N := 300) (by omega) (by decide)
  refine ⟨f, fun r hr => ⟨_, hr.trans r5.1, r5.2.1, by rw [r5.2.2]; exact vp_in_nI hp (by decide), ?_⟩⟩
  rw [nIc hp (by decide : 8 < 2 ^ 31), (fa_s h hp).2.2, e241]
  refine ⟨fun z => absurd z hcam, fun z => ⟨f, fun z => absurd z e3, fun z3 => ⟨f, f, ?_⟩⟩⟩
  rw [e225]
  refine m_tk h hm (by omega) (fun r hr e => ⟨fun z2 => ?_, fun z2 => absurd (e.mp (hr.resolve_left z2)) hno⟩)
  have h1 := S_mrow h (k0 := 18) (i := m) (by unfold ak; omega) hm3 (nI p)
  have h2 := S_mrow h1 (k0 := 19) (i := m) (by unfold ak; omega) hm3 (nI w)
  have h3 := S_mrow h2 (k0 := 20) (i := m) (by unfold ak; omega) hm3 (s2 1 0)
  have h4 := S_mrow h3 (k0 := 21) (i := m) (by unfold ak; omega) hm3 (s2 1 0 + nI (med a b c))
  have h5 := S_mtaken h4 (nI (m + 1))
  have r18 := fr h (k := 18) (by unfold ak; omega)
  have r19 := fr h1 (k := 19) (by unfold ak; omega)
  have r20 := fr h2 (k := 20) (by unfold ak; omega)
  have r21 := fr h3 (k := 21) (by unfold ak; omega)
  rw [e241]
  refine ⟨f, fun r hr => ⟨f, _, hr.trans r18.1, r18.2.1, by rw [r18.2.2]; exact wv, fun u10 q10 => ?_⟩⟩
  rw [cl] at q10
  have g1 : mI u10 241 (B 0 1) = nI m := by rw [q10]; exact e241
  have g2 : mI u10 225 (B 0 1) = s2 1 0 := by rw [q10]; exact e225
  have g3 : mI u10 224 (B 0 1) = mI u 224 (B 0 1) := by rw [q10]; rfl
  have g4 : mJ u10 (B 0 2) 0 = mJ u (B 0 2) 0 := by rw [q10]; rfl
  rw [← q10] at h1 h2 h3 h4 h5 r19 r20 r21
  clear q10
  rw [g1]
  refine ⟨(fm h1).1, fun r hr => ⟨(fm h1).1, _, hr.trans r19.1, r19.2.1, by rw [r19.2.2]; exact wv, fun u11 q11 => ?_⟩⟩
  rw [cl] at q11
  have g5 : mI u11 241 (B 0 1) = nI m := by rw [q11]; exact g1
  have g6 : mI u11 225 (B 0 1) = s2 1 0 := by rw [q11]; exact g2
  have g7 : mI u11 224 (B 0 1) = mI u 224 (B 0 1) := by rw [q11]; exact g3
  have g8 : mJ u11 (B 0 2) 0 = mJ u (B 0 2) 0 := by rw [q11]; exact g4
  rw [← q11] at h2 h3 h4 h5 r20 r21
  clear q11
  rw [g5, g6]
  refine ⟨(fm h2).1, fun r hr => ⟨(fm h2).1, (fm h2).1, _, hr.trans r20.1, r20.2.1, by rw [r20.2.2]; exact wv, fun u12 q12 => ?_⟩⟩
  rw [cl] at q12
  have g9 : mI u12 241 (B 0 1) = nI m := by rw [q12]; exact g5
  have g10 : mI u12 225 (B 0 1) = s2 1 0 := by rw [q12]; exact g6
  have g11 : mI u12 224 (B 0 1) = mI u 224 (B 0 1) := by rw [q12]; exact g7
  have g12 : mJ u12 (B 0 2) 0 = mJ u (B 0 2) 0 := by rw [q12]; exact g8
  rw [← q12] at h3 h4 h5 r21
  clear q12
  rw [g9, g10]
  refine ⟨(fm h3).1, fun r hr => ⟨(fm h3).1, (fm h3).1, (fm h3).1, m_mid h3 hp (by simpa [up2_at] using ea) (by simpa [up2_at] using eb) (by simpa [up2_at] using ec) ha hb hc ⟨_, hr.trans r21.1, r21.2.1, by rw [r21.2.2]; exact wv, fun u13 q13 => ?_⟩⟩⟩
  rw [cl] at q13
  have g13 : mI u13 241 (B 0 1) = nI m := by rw [q13]; exact g9
  have g15 : mI u13 224 (B 0 1) = mI u 224 (B 0 1) := by rw [q13]; exact g11
  have g16 : mJ u13 (B 0 2) 0 = mJ u (B 0 2) 0 := by rw [q13]; exact g12
  rw [← q13] at h4 h5
  clear q13
  refine ⟨(fm h4).1, (fm h4).1, fun u14 q14 => ?_⟩
  rw [g13, nI_1] at q14
  rw [← q14] at h5
  exact hK _ h5 (by rw [q14, gsn (by decide)]; exact g15) (by rw [q14]; exact g16)
end S2P
