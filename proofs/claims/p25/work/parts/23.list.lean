theorem l_size {G : Ctx} {u : Mem} {a arr cap n : Nat} {f : Nat → Nat} (h : Ls G u a arr cap n f) {K : Int32 → Mem → Prop} (hK : K (nI n) u) : w_Jx4a65c_size_8abf5 G a u K := ⟨h.1, by rw [h.2.2.1]; exact hK⟩
theorem l_get {G : Ctx} {u : Mem} {a arr cap n : Nat} {f : Nat → Nat} (h : Ls G u a arr cap n f) {i : Nat} (hi : i < n) {K : Option Nat → Mem → Prop} (hK : K (some (f i)) u) : w_Jx4a65c_get_915e3 G a (nI i) u K := by
  obtain ⟨h1, h2, h3, h4, h5, h6, h7⟩ := h
  have hc : 10 ≤ cap ∧ OB u arr 13 ∧ mN u arr = cap := by
    rcases h4 with ⟨z, _⟩ | z
    · omega
    · exact z
  refine ⟨h1, ?_⟩
  show w_J3_checkIndex_8e157 G (nI i) (mI u 2 a) u _
  refine ⟨fun z => absurd z (nI_pos (by omega)), fun _ => ⟨fun _ => ?_, fun z => absurd (nI_lt hi (by omega)) (by rw [h3] at z; exact z)⟩⟩
  refine ⟨h1, ?_⟩
  refine ⟨h1, fun r hr => ⟨arr, hr.trans h2, hc.2.1, vp_in_nI (by rw [hc.2.2]; omega) (by rw [hc.2.2]; omega), fun r3 hr3 => ?_⟩⟩
  rw [nI_clamp (by omega), h7 i hi] at hr3
  subst hr3
  exact hK
/-- the last step of add: room is there -/
theorem l_add11 {G : Ctx} {u : Mem} {a q N n e mc ms : Nat} (ha : OB u a 0) (hq : OB u q 13) (hN : mN u q = N) (hn : n < N) (hN2 : N ≤ 2000) (he : OB u e 5 ∨ OB u e 3) {K : Mem → Prop} (hK : K (setI (setB u q n (some e)) 2 a (nI (n + 1)))) : w_Jx4a65c_add_72be8_11 G a e (nI n) K (some q) mc ms u := by
  refine ⟨q, rfl, hq, vp_in_nI (by rw [hN]; exact hn) (by rw [hN]; omega), he, fun u14 h14 => ⟨by rw [h14]; exact ha, fun u15 h15 => ?_⟩⟩
  rw [nI_clamp (by omega)] at h14
  rw [nI_1] at h15
  rw [h15, h14]
  exact hK
theorem l_add_in {G : Ctx} {u : Mem} {a arr cap n e mc ms : Nat} {f : Nat → Nat} (h : Ls G u a arr cap n f) (hn : n < cap) (he : OB u e 5 ∨ OB u e 3) {K : Int32 → Mem → Prop} (hK : ∀ v, K 1 (setI (setB (setI u 0 a v) arr n (some e)) 2 a (nI (n + 1)))) : w_Jx4a65c_add_9ea2d G a e mc ms u K := by
  obtain ⟨h1, h2, h3, h4, h5, h6, h7⟩ := h
  have hc : 10 ≤ cap ∧ OB u arr 13 ∧ mN u arr = cap := by
    rcases h4 with ⟨z, _⟩ | z
    · omega
    · exact z
  refine ⟨h1, h1, fun u1 e1 => ?_⟩
  subst e1
  refine ⟨h1, fun r2 er => ⟨h1, arr, er.trans h2, 0, 0, Nat.zero_le _, Nat.zero_le _, h1, cap, Or.inl ⟨hc.2.1, hc.2.2⟩, fun z => ?_, fun _ => ?_⟩⟩
  · rw [gI_setI, if_neg (fun z => absurd z.1 (by decide)), h3] at z
    exact absurd ((nI_eq (by omega) (by omega)).mp z) (by omega)
  · rw [gI_setI, if_neg (fun z => absurd z.1 (by decide)), h3]
    exact l_add11 (K := fun u4 => (((1 : Int32) = 0 ∨ (1 : Int32) = 1) ∧ K (1 : Int32) u4)) (u := setI u 0 a (mI u 0 a + 1)) (N := cap) h1 hc.2.1 hc.2.2 hn (by omega) he ⟨Or.inr rfl, hK _⟩
def ncap (cap : Nat) : Nat := if cap = 0 then 10 else cap + cap / 2
theorem l_grow20 {G : Ctx} {u : Mem} {a arr cap mc ms : Nat} (ha : OB u a 0) (hr : mR u 1 a = some arr) (hc : 10 ≤ cap) (hc2 : cap ≤ 1000) (ho : OB u arr 13) (hN : mN u arr = cap) (hel : ∃ ci : Nat, (ci = 5 ∨ ci = 3) ∧ ∀ i, i < cap → ∀ y, mB u arr i = some y → OB u y ci) (hmc : 1 ≤ mc) (hms : cap + cap / 2 ≤ ms) {K : Option Nat → Mem → Prop} (hK : ∀ q u2, q ∉ mL u → Ext u u2 → OB u2 q 13 → mN u2 q = cap + cap / 2 → (∀ i, i < cap → mB u2 q i = mB u arr i) → K (some q) (setR u2 1 a (some q))) : w_Jx4a65c_grow_92f84_20 G a (nI (cap + 1)) K (nI cap) mc ms u := by
  have es : nI cap >>> ((1 : Int32) &&& 31) = nI (cap / 2) := by
    have k := pk_shrN (n := cap) (by omega) ((1 : Int32) &&& 31) 1 (by decide)
    rw [Nat.pow_one] at k
    exact k
  have ed : nI (cap + 1) - nI cap = nI 1 := by
    have k := pk_sub (a := cap + 1) (b := cap) (by omega)
    rw [Nat.add_sub_cancel_left] at k
    exact k
  have ei : (if nI 1 < nI (cap / 2) then nI (cap / 2) else nI 1) = nI (cap / 2) := if_pos (nI_lt (by omega) (by omega))
  show w_J8_newLength_cabcc G (nI cap) (nI (cap + 1) - nI cap) (nI cap >>> ((1 : Int32) &&& 31)) u _
  rw [es, ed]
  unfold w_J8_newLength_cabcc
  rw [ei, nI_add]
  refine ⟨fun z => absurd z (nI_nle (by omega) (by omega)), fun _ => ⟨fun z => absurd z (nI_nlt (a := 2147483639) (by omega) (by omega)), fun _ => ?_⟩⟩
  refine ⟨ha, fun r31 er => ⟨arr, er.trans hr, 1, cap + cap / 2, hmc, hms, ?_⟩⟩
  refine ⟨ho, 1, cap + cap / 2, Nat.le_refl _, Nat.le_refl _, fun _ => ⟨cap + cap / 2, rfl, by omega, Nat.le_refl _, Nat.le_refl _, fun q hq u4 e4 => ?_⟩, fun z => absurd rfl z⟩
  have E4 : Ext u u4 := by rw [e4]; exact Ext.rf.new hq
  have oq : OB u4 q 13 := by rw [e4]; exact gO_self
  have nq : mN u4 q = cap + cap / 2 := by rw [e4, gN_mNew, if_pos rfl]
  have oa : OB u4 arr 13 := E4.ob ho
  have na : mN u4 arr = cap := ((E4 arr ho.1).2.2.1).trans hN
  have eif : (if nI (cap + cap / 2) < nI cap then nI (cap + cap / 2) else nI cap) = nI cap := if_neg (nI_nlt (by omega) (by omega))
  refine ⟨cap, Or.inl ⟨oa, na⟩, oa, oq, by decide, by decide, ?_, ?_, ?_, ?_, fun u10 e10 => ?_⟩
  · rw [eif]; exact nI_pos (by omega)
  · rw [eif, nI_clamp (by omega), na]; show 0 + cap ≤ cap; omega
  · rw [eif, nI_clamp (by omega), nq]; show 0 + cap ≤ cap + cap / 2; omega
  · obtain ⟨ci, h1, h2⟩ := hel
    refine ⟨ci, h1, fun i hi y hy => ?_⟩
    rw [eif, nI_clamp (by omega)] at hi
    have hz : (0 : Int32).toNatClampNeg + i = i := Nat.zero_add i
    rw [hz, (E4 arr ho.1).2.2.2.2.2.2 i] at hy
    exact E4.ob (h2 i hi y hy)
  · rw [eif, nI_clamp (by omega)] at e10
    refine ⟨?_, fun u37 e37 => ?_⟩
    · rw [e10]; exact E4.ob ha
    · rw [e37]
      refine hK q u10 hq (by rw [e10]; exact E4.setC hq _) (by rw [e10]; exact oq) (by rw [e10]; exact nq) (fun i hi => ?_)
      rw [e10, gB_setC, if_pos rfl]
      have h0 : (0 : Int32).toNatClampNeg = 0 := rfl
      rw [h0]
      unfold va_cpy
      rw [if_pos ⟨Nat.zero_le _, by omega⟩]
      have hz : 0 + (i - 0) = i := by omega
      rw [hz]
      exact (E4 arr ho.1).2.2.2.2.2.2 i
theorem l_add_new {G : Ctx} {u : Mem} {a arr cap n e mc ms : Nat} {f : Nat → Nat} (h : Ls G u a arr cap n f) (hn : n = cap) (hc9 : cap ≤ 600) (he : OB u e 5 ∨ OB u e 3) (hel : ∃ ci : Nat, (ci = 5 ∨ ci = 3) ∧ ∀ i, i < n → OB u (f i) ci) (hmc : 1 ≤ mc) (hms : ncap cap ≤ ms) {K : Int32 → Mem → Prop} (hK : ∀ v q u2, q ∉ mL u → Ext (setI u 0 a v) u2 → OB u2 q 13 → mN u2 q = ncap cap → (∀ i, i < n → mB u2 q i = mB u arr i) → K 1 (setI (setB (setR u2 1 a (some q)) q n (some e)) 2 a (nI (n + 1)))) : w_Jx4a65c_add_9ea2d G a e mc ms u K := by
  obtain ⟨h1, h2, h3, h4, h5, h6, h7⟩ := h
  subst hn
  have hAL : AL G u arr n := by
    rcases h4 with ⟨z1, z2⟩ | ⟨z1, z2, z3⟩
    · exact Or.inr ⟨z2, z1⟩
    · exact Or.inl ⟨z2, z3⟩
  refine ⟨h1, h1, fun u1 e1 => ?_⟩
  have o1 : OB u1 a 0 := by rw [e1]; exact h1
  have r1 : mR u1 1 a = some arr := by rw [e1]; exact h2
  have i1 : mI u1 2 a = nI n := by rw [e1, gI_setI, if_neg (fun z => absurd z.1 (by decide))]; exact h3
  have al1 : AL G u1 arr n := by rw [e1]; exact hAL
  have L1 : mL u1 = mL u := by rw [e1]; rfl
  have B1 : ∀ b i, mB u1 b i = mB u b i := fun b i => by rw [e1]; rfl
  have he1 : OB u1 e 5 ∨ OB u1 e 3 := by rw [e1]; exact he
  have ob1 : ∀ b k, OB u b k → OB u1 b k := fun b k z => by rw [e1]; exact z
  have nn : n < ncap n := by unfold ncap; split <;> omega
  have nn2 : ncap n ≤ 2000 := by unfold ncap; split <;> omega
  refine ⟨o1, fun r2 er => ⟨o1, arr, er.trans r1, 1, ncap n, hmc, hms, o1, n, al1, fun _ => ?_, fun z => absurd i1 z⟩⟩
  rw [i1]
  refine ⟨1, ncap n, Nat.le_refl _, Nat.le_refl _, o1, o1, 1, ncap n, Nat.le_refl _, Nat.le_refl _, o1, ?_⟩
  rw [i1, nI_1]
  have fin : ∀ q u2, q ∉ mL u1 → Ext u1 u2 → OB u2 q 13 → mN u2 q = ncap n → (∀ i, i < n → mB u2 q i = mB u1 arr i) → w_Jx4a65c_add_72be8_11 G a e (nI n) (fun u4 => (((1 : Int32) = 0 ∨ (1 : Int32) = 1) ∧ K (1 : Int32) u4)) (some q) (1 - 1) (ncap n - ncap n) (setR u2 1 a (some q)) := fun q u2 g1 g2 g3 g4 g5 =>
    l_add11 (K := fun u4 => (((1 : Int32) = 0 ∨ (1 : Int32) = 1) ∧ K (1 : Int32) u4)) (u := setR u2 1 a (some q)) (N := ncap n) (g2.ob o1) g3 g4 nn nn2 (he1.elim (fun z => Or.inl (g2.ob z)) (fun z => Or.inr (g2.ob z))) ⟨Or.inr rfl, hK _ q u2 (by rw [← L1]; exact g1) (by rw [← e1]; exact g2) g3 g4 (fun i hi => (g5 i hi).trans (B1 arr i))⟩
  refine ⟨o1, fun r1' er1 => ⟨arr, er1.trans r1, n, al1, fun hpos => ?_, fun hz => ⟨o1, fun r5 er5 => ⟨fun _ => ?_, fun hne => ?_⟩⟩⟩⟩
  · have hc : 10 ≤ n ∧ OB u arr 13 ∧ mN u arr = n := by
      rcases h4 with ⟨z, _⟩ | z
      · subst z; exact absurd hpos (by decide)
      · exact z
    have en : ncap n = n + n / 2 := by unfold ncap; rw [if_neg (by omega)]
    have hel1 : ∃ ci : Nat, (ci = 5 ∨ ci = 3) ∧ ∀ i, i < n → ∀ y, mB u1 arr i = some y → OB u1 y ci := by
      obtain ⟨ci, c1, c2⟩ := hel
      refine ⟨ci, c1, fun i hi y hy => ?_⟩
      rw [B1, h7 i hi] at hy
      cases hy
      exact ob1 _ _ (c2 i hi)
    rw [en] at fin ⊢
    exact l_grow20 o1 r1 hc.1 (by omega) (ob1 _ _ hc.2.1) (by rw [e1]; exact hc.2.2) hel1 (Nat.le_refl _) (Nat.le_refl _) (fun q u2 g1 g2 g3 g4 g5 => fin q u2 g1 g2 g3 g4 g5)
  · have hn0 : n = 0 := by
      rcases Nat.eq_zero_or_pos n with z | z
      · exact z
      · exact absurd (nI_lt z (by omega)) hz
    subst hn0
    refine ⟨10, by decide, by omega, Nat.le_refl _, Nat.le_refl _, fun q hq u9 e9 => ?_⟩
    have E9 : Ext u1 u9 := by rw [e9]; exact Ext.rf.new hq
    refine ⟨E9.ob o1, fun u10 e10 => ?_⟩
    rw [e10]
    exact fin q u9 hq E9 (by rw [e9]; exact gO_self) (by rw [e9, gN_mNew, if_pos rfl]; rfl) (fun i hi => absurd hi (Nat.not_lt_zero i))
  · exfalso
    have hn0 : n = 0 := by
      rcases Nat.eq_zero_or_pos n with z | z
      · exact z
      · exact absurd (nI_lt z (by omega)) hz
    rcases h4 with ⟨_, z⟩ | ⟨z, _⟩
    · exact hne (by rw [er5, r1, z])
    · omega
