section S2M
variable {B : Nat → Nat → Nat} {G : Ctx} {s s2 : Nat → Nat → Int32} {t : Nat → Nat → Nat} {ka : List Nat} {u : Mem}
theorem w_get0 (h : S2 B G s t ka s2 u) {i : Nat} (hi : i < t 3 0) {K : Option Nat → Mem → Prop} : w_Jx4a65c_get_915e3 G (B 0 5) (nI i) u K ↔ K (some (t 0 i)) u := by
  obtain ⟨h1, h2, h3, h4, h5, h6, h7⟩ := h.2.2.2.2.2.1
  have hc : OB u (t 4 0) 13 ∧ mN u (t 4 0) = t 5 0 := by
    rcases h4 with ⟨z, _⟩ | ⟨_, z⟩
    · omega
    · exact z
  have e1 : nI i < nI (t 3 0) := by rw [nI_ltI (by omega) (by omega)]; omega
  have e2 : ¬ (nI i < 0) := nI_pos (by omega)
  have e3 : vp_in (nI i) (t 5 0) := vp_in_nI (by omega) (by omega)
  simp [w_Jx4a65c_get_915e3, w_J15_checkIndex_7cf53, w_J3_checkIndex_8e157, w_Jx4a65c_elementData_915e3, h1, h2, h3, e1, e2, hc, e3, nIc (i := i) (N := t 5 0) (by omega) (by omega), h7 i hi]
theorem w_get1 (h : S2 B G s t ka s2 u) {i : Nat} (hi : i < t 3 1) {K : Option Nat → Mem → Prop} : w_Jx4a65c_get_915e3 G (B 0 7) (nI i) u K ↔ K (some (t 1 i)) u := by
  obtain ⟨h1, h2, h3, h4, h5, h6, h7⟩ := h.2.2.2.2.2.2.1
  have hc : OB u (t 4 1) 13 ∧ mN u (t 4 1) = t 5 1 := by
    rcases h4 with ⟨z, _⟩ | ⟨_, z⟩
    · omega
    · exact z
  have e1 : nI i < nI (t 3 1) := by rw [nI_ltI (by omega) (by omega)]; omega
  have e2 : ¬ (nI i < 0) := nI_pos (by omega)
  have e3 : vp_in (nI i) (t 5 1) := vp_in_nI (by omega) (by omega)
  simp [w_Jx4a65c_get_915e3, w_J15_checkIndex_7cf53, w_J3_checkIndex_8e157, w_Jx4a65c_elementData_915e3, h1, h2, h3, e1, e2, hc, e3, nIc (i := i) (N := t 5 1) (by omega) (by omega), h7 i hi]
theorem w_get2 (h : S2 B G s t ka s2 u) {i : Nat} (hi : i < ka.length) {K : Option Nat → Mem → Prop} : w_Jx4a65c_get_915e3 G (B 0 8) (nI i) u K ↔ K (some (t 1 (ka.getD i 0))) u := by
  obtain ⟨h1, h2, h3, h4, h5, h6, h7⟩ := h.2.2.2.2.2.2.2.1
  have hc : OB u (t 4 2) 13 ∧ mN u (t 4 2) = t 5 2 := by
    rcases h4 with ⟨z, _⟩ | ⟨_, z⟩
    · omega
    · exact z
  have e1 : nI i < nI ka.length := by rw [nI_ltI (by omega) (by omega)]; omega
  have e2 : ¬ (nI i < 0) := nI_pos (by omega)
  have e3 : vp_in (nI i) (t 5 2) := vp_in_nI (by omega) (by omega)
  have e4 : mB u (t 4 2) i = some (t 1 (ka.getD i 0)) := h7 i hi
  generalize t 1 (ka.getD i 0) = y at e4 ⊢
  simp [w_Jx4a65c_get_915e3, w_J15_checkIndex_7cf53, w_J3_checkIndex_8e157, w_Jx4a65c_elementData_915e3, h1, h2, h3, e1, e2, hc, e3, nIc (i := i) (N := t 5 2) (by omega) (by omega), e4]
def Iv (s : Nat → Nat → Int32) (t : Nat → Nat → Nat) (ka : List Nat) : Prop := (t 3 0 ≤ 60 ∧ t 3 1 ≤ 300 ∧ s 10 0 = nI (t 3 0) ∧ s 17 0 = nI (t 3 1) ∧ (∃ d, d ≤ 1000 ∧ s 1 0 = nI d) ∧ (∃ m, m ≤ 1000 ∧ s 2 0 = nI m)) ∧ (∀ i, i < 8 → ∃ p, p ≤ 100000 ∧ s 3 i = nI p) ∧ (∀ i, i < 8 → ∃ c, c ≤ 50 ∧ s 4 i = nI c) ∧ (∀ k, k < 24 → ∃ v, 1 ≤ v ∧ v ≤ 30 ∧ s 6 k = nI v) ∧ (∀ e, e < 4 → ∃ a, a < 8 ∧ s 7 e = nI a) ∧ (∀ e, e < 4 → ∃ r, r ≤ 100 ∧ s 8 e = nI r) ∧ (∀ w, w < t 3 0 → ∃ f d, f < 8 ∧ d < 8 ∧ s 11 w = nI f ∧ s 12 w = nI d) ∧ (∀ w, w < t 3 0 → (s 14 w = -1 ∧ s 13 w = 0) ∨ ∃ e, e < 4 ∧ s 14 w = nI e ∧ (s 13 w = 1 ∨ s 13 w = 2 ∨ s 13 w = 3)) ∧ (∀ w, t 3 0 ≤ w → s 13 w = 0 ∧ s 15 w = 0 ∧ s 16 w = 0) ∧ (∀ j, j < t 3 1 → ∃ x, x ≤ 2000 ∧ s 21 j = nI x) ∧ ka = (List.range (t 3 1)).filter (fun j => decide (s 1 0 < s 21 j))
def Pt (q mc ms : Nat) (t : Nat → Nat → Nat) : Prop := 4 * q + 3 * (300 - t 3 1) ≤ mc ∧ 600 * q + 1000 * (300 - t 3 1) ≤ ms
theorem Pt_1 {q mc ms : Nat} (h : Pt (q + 1) mc ms t) : 1 ≤ mc ∧ 6 ≤ ms ∧ Pt q (mc - 1) (ms - 6) t ∧ Pt q mc ms t := by
  unfold Pt at *; omega
theorem I_3 (h : Iv s t ka) (i : Nat) (v : Int32) (hv : ∃ p, p ≤ 100000 ∧ v = nI p) : Iv (up2 s 3 i v) t ka := by
  obtain ⟨i0, i1, i2, i3, i4, i5, i6, i7, i8, i9, i10⟩ := h
  refine ⟨i0, ?_, i2, i3, i4, i5, i6, i7, i8, i9, i10⟩
  intro j hj
  by_cases e : j = i
  · rw [up2_at, if_pos ⟨rfl, e⟩]; exact hv
  · rw [up2_at, if_neg (fun z => e z.2)]; exact i1 j hj
theorem I_4 (h : Iv s t ka) (i : Nat) (v : Int32) (hv : ∃ p, p ≤ 50 ∧ v = nI p) : Iv (up2 s 4 i v) t ka := by
  obtain ⟨i0, i1, i2, i3, i4, i5, i6, i7, i8, i9, i10⟩ := h
  refine ⟨i0, i1, ?_, i3, i4, i5, i6, i7, i8, i9, i10⟩
  intro j hj
  by_cases e : j = i
  · rw [up2_at, if_pos ⟨rfl, e⟩]; exact hv
  · rw [up2_at, if_neg (fun z => e z.2)]; exact i2 j hj
theorem I_5 (h : Iv s t ka) (i : Nat) (v : Int32)  : Iv (up2 s 5 i v) t ka := by
  obtain ⟨i0, i1, i2, i3, i4, i5, i6, i7, i8, i9, i10⟩ := h
  exact ⟨i0, i1, i2, i3, i4, i5, i6, i7, i8, i9, i10⟩
theorem I_6 (h : Iv s t ka) (i : Nat) (v : Int32) (hv : ∃ x, 1 ≤ x ∧ x ≤ 30 ∧ v = nI x) : Iv (up2 s 6 i v) t ka := by
  obtain ⟨i0, i1, i2, i3, i4, i5, i6, i7, i8, i9, i10⟩ := h
  refine ⟨i0, i1, i2, ?_, i4, i5, i6, i7, i8, i9, i10⟩
  intro j hj
  by_cases e : j = i
  · rw [up2_at, if_pos ⟨rfl, e⟩]; exact hv
  · rw [up2_at, if_neg (fun z => e z.2)]; exact i3 j hj
theorem I_7 (h : Iv s t ka) (i : Nat) (v : Int32) (hv : ∃ a, a < 8 ∧ v = nI a) : Iv (up2 s 7 i v) t ka := by
  obtain ⟨i0, i1, i2, i3, i4, i5, i6, i7, i8, i9, i10⟩ := h
  refine ⟨i0, i1, i2, i3, ?_, i5, i6, i7, i8, i9, i10⟩
  intro j hj
  by_cases e : j = i
  · rw [up2_at, if_pos ⟨rfl, e⟩]; exact hv
  · rw [up2_at, if_neg (fun z => e z.2)]; exact i4 j hj
theorem I_8 (h : Iv s t ka) (i : Nat) (v : Int32) (hv : ∃ r, r ≤ 100 ∧ v = nI r) : Iv (up2 s 8 i v) t ka := by
  obtain ⟨i0, i1, i2, i3, i4, i5, i6, i7, i8, i9, i10⟩ := h
  refine ⟨i0, i1, i2, i3, i4, ?_, i6, i7, i8, i9, i10⟩
  intro j hj
  by_cases e : j = i
  · rw [up2_at, if_pos ⟨rfl, e⟩]; exact hv
  · rw [up2_at, if_neg (fun z => e z.2)]; exact i5 j hj
theorem I_9 (h : Iv s t ka) (i : Nat) (v : Int32)  : Iv (up2 s 9 i v) t ka := by
  obtain ⟨i0, i1, i2, i3, i4, i5, i6, i7, i8, i9, i10⟩ := h
  exact ⟨i0, i1, i2, i3, i4, i5, i6, i7, i8, i9, i10⟩
end S2M
