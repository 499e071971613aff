section S2P
variable {B : Nat → Nat → Nat} {G : Ctx} {s s2 : Nat → Nat → Int32} {t : Nat → Nat → Nat} {ka : List Nat} {u : Mem}
def Qp (s : Nat → Nat → Int32) (a b c : Int32) (k : Nat) : Prop := s 18 k = a ∧ s 19 k = b ∧ s 20 k = c
theorem isOf_t (h : S2 B G s t ka s2 u) {k : Nat} (hk : k < t 3 1) {a b c : Int32} (hq : Qp s a b c k) {K : Int32 → Mem → Prop} (hK : K 1 u) : w_X2_isOf G (t 1 k) a b c u K := by
  obtain ⟨q1, q2, q3⟩ := hq
  simp [w_X2_isOf, fp h hk, q1, q2, q3, hK]
theorem isOf_f (h : S2 B G s t ka s2 u) {k : Nat} (hk : k < t 3 1) {a b c : Int32} (hq : ¬ Qp s a b c k) {K : Int32 → Mem → Prop} (hK : K 0 u) : w_X2_isOf G (t 1 k) a b c u K := by
  by_cases q1 : s 18 k = a
  · by_cases q2 : s 19 k = b
    · have q3 : ¬ s 20 k = c := fun q3 => hq ⟨q1, q2, q3⟩
      simp [w_X2_isOf, fp h hk, q1, q2, q3, hK]
    · simp [w_X2_isOf, fp h hk, q1, q2, hK]
  · simp [w_X2_isOf, fp h hk, q1, hK]
theorem nle {i n : Nat} (h : i < n) (hn : n < 2 ^ 31) : ¬ (nI n ≤ nI i) := by rw [nI_leI (by omega) (by omega)]; omega
theorem c_keeps_l (h : S2 B G s t ka s2 u) (hn : ka.length ≤ 300) {a b c : Int32} {K : Int32 → Mem → Prop} (hK : ∀ r, (r = 0 ∨ r = 1) → (r = 1 ↔ ∃ i, i < ka.length ∧ Qp s a b c (ka.getD i 0)) → K r u) : ∀ d i, i + d = ka.length → (∀ i', i' < i → ¬ Qp s a b c (ka.getD i' 0)) → w_X0_keeps_3 G (B 0 6) a b c K (d + 1) (nI i) u := by
  intro d
  have f := fd h
  obtain ⟨f1, f2, f3, f4, f5, f6, f7, f8, f9, f10, f11, f12, f13, f14, f15, f16, f17, f18, f19, f20, f21, f22⟩ := f
  induction d with
  | zero =>
    intro i hi hno
    have e : nI ka.length ≤ nI i := by rw [nI_leI (by omega) (by omega)]; omega
    rw [wS_X0_keeps_3]
    refine ⟨f12, fun r hr => ⟨_, hr.trans f14, f17, f17, ?_⟩⟩
    rw [f20]
    refine ⟨fun _ => ⟨.inl rfl, hK 0 (.inl rfl) ⟨fun z => absurd z (by decide), fun ⟨j, hj, hq⟩ => absurd hq (hno j (by omega))⟩⟩, fun z => absurd e z⟩
  | succ d ih =>
    intro i hi hno
    have hi2 : i < ka.length := by omega
    rw [wS_X0_keeps_3]
    refine ⟨f12, fun r hr => ⟨_, hr.trans f14, f17, f17, ?_⟩⟩
    rw [f20]
    refine ⟨fun z => absurd z (nle hi2 (by omega)), fun _ => ⟨f12, fun r hr => ⟨_, hr.trans f14, f17, ?_⟩⟩⟩
    rw [w_get2 h hi2]
    have hk := kin h hi2
    refine ⟨_, rfl, (fp h hk).1, (fp h hk).1, ?_⟩
    by_cases hq : Qp s a b c (ka.getD i 0)
    · exact isOf_t h hk hq ⟨fun z => absurd z (by decide), fun _ => ⟨.inr rfl, hK 1 (.inr rfl) ⟨fun _ => ⟨i, hi2, hq⟩, fun _ => rfl⟩⟩⟩
    · refine isOf_f h hk hq ⟨fun _ => ?_, fun z => absurd rfl z⟩
      show w_X0_keeps_3 G (B 0 6) a b c K (d + 1) (nI i + 1) u
      rw [nI_1]
      exact ih (i + 1) (by omega) (fun i' hi' => by
        rcases Nat.lt_or_ge i' i with y | y
        · exact hno i' y
        · rw [show i' = i by omega]; exact hq)
theorem c_keeps (h : S2 B G s t ka s2 u) (hn : ka.length ≤ 300) {a b c : Int32} {K : Int32 → Mem → Prop} (hK : ∀ r, (r = 0 ∨ r = 1) → (r = 1 ↔ ∃ i, i < ka.length ∧ Qp s a b c (ka.getD i 0)) → K r u) : w_X0_keeps G (B 0 6) a b c u K :=
  ⟨ka.length + 1, c_keeps_l h hn hK ka.length 0 (by omega) (fun i' hi' => absurd hi' (by omega))⟩
theorem c_papers_l (h : S2 B G s t ka s2 u) (hn : t 3 1 ≤ 300) {a b c dd : Int32} {K : Int32 → Mem → Prop} (hK : ∀ r, (r = 0 ∨ r = 1) → (r = 1 ↔ ∃ i, i < t 3 1 ∧ Qp s a b c i ∧ dd < s 21 i) → K r u) : ∀ d i, i + d = t 3 1 → (∀ i', i' < i → ¬ (Qp s a b c i' ∧ dd < s 21 i')) → w_X0_papersTell_3 G (B 0 6) a b c dd K (d + 1) (nI i) u := by
  intro d
  have f := fd h
  obtain ⟨f1, f2, f3, f4, f5, f6, f7, f8, f9, f10, f11, f12, f13, f14, f15, f16, f17, f18, f19, f20, f21, f22⟩ := f
  induction d with
  | zero =>
    intro i hi hno
    have e : nI (t 3 1) ≤ nI i := by rw [nI_leI (by omega) (by omega)]; omega
    rw [wS_X0_papersTell_3]
    refine ⟨f12, fun r hr => ⟨_, hr.trans f13, f16, f16, ?_⟩⟩
    rw [f19]
    refine ⟨fun _ => ⟨.inl rfl, hK 0 (.inl rfl) ⟨fun z => absurd z (by decide), fun ⟨j, hj, hq⟩ => absurd hq (hno j (by omega))⟩⟩, fun z => absurd e z⟩
  | succ d ih =>
    intro i hi hno
    have hi2 : i < t 3 1 := by omega
    rw [wS_X0_papersTell_3]
    refine ⟨f12, fun r hr => ⟨_, hr.trans f13, f16, f16, ?_⟩⟩
    rw [f19]
    refine ⟨fun z => absurd z (nle hi2 (by omega)), fun _ => ⟨f12, fun r hr => ⟨_, hr.trans f13, f16, ?_⟩⟩⟩
    rw [w_get1 h hi2]
    obtain ⟨g1, g2, g3, g4, g5⟩ := fp h hi2
    refine ⟨_, rfl, g1, g1, ?_⟩
    have hgo : ¬ (Qp s a b c i ∧ dd < s 21 i) → w_X0_papersTell_3 G (B 0 6) a b c dd K (d + 1) (nI i + 1) u := fun hq => by
      rw [nI_1]
      exact ih (i + 1) (by omega) (fun i' hi' => by
        rcases Nat.lt_or_ge i' i with y | y
        · exact hno i' y
        · rw [show i' = i by omega]; exact hq)
    by_cases hq : Qp s a b c i
    · refine isOf_t h hi2 hq ⟨fun z => absurd z (by decide), fun _ => ⟨g1, ?_⟩⟩
      rw [g5]
      exact ⟨fun z => hgo (fun k => absurd z (Int32.not_le.mpr k.2)), fun z => ⟨.inr rfl, hK 1 (.inr rfl) ⟨fun _ => ⟨i, hi2, hq, Int32.not_le.mp z⟩, fun _ => rfl⟩⟩⟩
    · exact isOf_f h hi2 hq ⟨fun _ => hgo (fun k => hq k.1), fun z => absurd rfl z⟩
theorem c_papers (h : S2 B G s t ka s2 u) (hn : t 3 1 ≤ 300) {a b c dd : Int32} {K : Int32 → Mem → Prop} (hK : ∀ r, (r = 0 ∨ r = 1) → (r = 1 ↔ ∃ i, i < t 3 1 ∧ Qp s a b c i ∧ dd < s 21 i) → K r u) : w_X0_papersTell G (B 0 6) a b c dd u K :=
  ⟨t 3 1 + 1, c_papers_l h hn hK (t 3 1) 0 (by omega) (fun i' hi' => absurd hi' (by omega))⟩
theorem kmem {ka : List Nat} {P : Nat → Prop} : (∃ i, i < ka.length ∧ P (ka.getD i 0)) ↔ ∃ k, k ∈ ka ∧ P k := by
  constructor
  · rintro ⟨i, hi, hp⟩
    rw [List.getD_eq_getElem?_getD, List.getElem?_eq_getElem hi] at hp
    exact ⟨_, List.getElem_mem hi, hp⟩
  · rintro ⟨k, hk, hp⟩
    obtain ⟨i, hi, e⟩ := List.getElem_of_mem hk
    refine ⟨i, hi, ?_⟩
    rw [List.getD_eq_getElem?_getD, List.getElem?_eq_getElem hi]
    simpa [e] using hp
theorem ka_iff (hI : Iv s t ka) {k : Nat} : k ∈ ka ↔ k < t 3 1 ∧ s 1 0 < s 21 k := by
  rw [hI.2.2.2.2.2.2.2.2.2.2, List.mem_filter, List.mem_range]
  simp
theorem ka_len (hI : Iv s t ka) : ka.length ≤ 300 := by
  have h1 : ka.length ≤ (List.range (t 3 1)).length := by
    rw [hI.2.2.2.2.2.2.2.2.2.2]; exact List.length_filter_le _ _
  rw [List.length_range] at h1
  have := hI.1.2.1
  omega
theorem same01 {r r' : Int32} {P : Prop} (h : r = 0 ∨ r = 1) (h' : r' = 0 ∨ r' = 1) (e : r = 1 ↔ P) (e' : r' = 1 ↔ P) : r = r' := by
  rcases h with h | h <;> rcases h' with h' | h'
  · rw [h, h']
  · exact absurd (e.mpr (e'.mp h')) (by rw [h]; decide)
  · exact absurd (e'.mpr (e.mp h)) (by rw [h']; decide)
  · rw [h, h']
theorem c_shows {mc ms : Nat} (h : S2 B G s t ka s2 u) (hI : Iv s t ka) {i w : Nat} (hi : i < 8) (hw : w < t 3 0) {x3 : Int32} {K : Int32 → Mem → Prop} {X : String → Mem → Prop} (hK : ∀ r, (r = 0 ∨ r = 1) → (r = 1 ↔ ∃ k, k < t 3 1 ∧ Qp s (nI i) (nI w) x3 k ∧ s 1 0 < s 21 k) → K r u) : w_X5_shows G (B 0 0) (nI i) (nI w) x3 mc ms u K X := by
  simp [w_X5_shows, w_X5_isStreet, rg8 hi, fd h]
  refine c_walk' h hI.1.1 hw ?_
  simp [fd h]
  refine c_keeps h (ka_len hI) (fun r hr e => ⟨hr, hK r hr (e.trans (kmem.trans ?_))⟩)
  constructor
  · rintro ⟨k, k1, k2⟩; exact ⟨k, ((ka_iff hI).mp k1).1, k2, ((ka_iff hI).mp k1).2⟩
  · rintro ⟨k, k1, k2, k3⟩; exact ⟨k, (ka_iff hI).mpr ⟨k1, k3⟩, k2⟩
theorem c_showsP {mc ms : Nat} (h : S2 B G s t ka s2 u) (hI : Iv s t ka) {i w : Nat} (hi : i < 8) (hw : w < t 3 0) {x3 : Int32} {K : Int32 → Mem → Prop} {X : String → Mem → Prop} (hK : ∀ r, (r = 0 ∨ r = 1) → (r = 1 ↔ ∃ k, k < t 3 1 ∧ Qp s (nI i) (nI w) x3 k ∧ s 1 0 < s 21 k) → K r u) : w_X5_showsByPapers G (B 0 0) (nI i) (nI w) x3 mc ms u K X := by
  simp [w_X5_showsByPapers, w_X5_isStreet, rg8 hi, fd h]
  refine c_walk' h hI.1.1 hw ?_
  simp [fd h]
  exact c_papers h hI.1.2.1 (fun r hr e => ⟨hr, hK r hr e⟩)
theorem c_pics (h : S2 B G s t ka s2 u) {K : Int32 → Mem → Prop} (hK : K (nI ka.length) u) : w_X5_pictures G (B 0 0) u K := by
  simp [w_X5_pictures, w_X0_countKept, w_Jx4a65c_size_8abf5, fd h, hK]
theorem c_rm (h : S2 B G s t ka s2 u) {i : Nat} (hi : i < ka.length) (hn : ka.length ≤ 300) {K : Option Nat → Mem → Prop} (hK : ∀ r u', S2 B G s t (ka.eraseIdx i) s2 u' → K r u') : w_Jx4a65c_remove_915e3 G (B 0 8) (nI i) u K := by
  have hL := h.2.2.2.2.2.2.2.1
  have ho := hL.1
  have hn2 := hL.2.2.1
  have hle := hL.2.2.2.2.1
  have hA := lok hL (by omega)
  have hN : mN u (t 4 2) = t 5 2 := by
    rcases hL.2.2.2.1 with ⟨z, _⟩ | ⟨_, _, z⟩
    · omega
    · exact z
  have hc2 := hL.2.2.2.2.2.1
  have e1 : nI i < nI ka.length := by rw [nI_ltI (by omega) (by omega)]; omega
  have e2 : ¬ (nI i < 0) := nI_pos (by omega)
  have cl := nIc (i := i) (N := 2000) (by omega) (by decide)
  refine ⟨ho, ?_⟩
  rw [hn2]
  refine ⟨fun z => absurd z e2, fun _ => ⟨fun _ => ?_, fun z => absurd e1 z⟩⟩
  refine ⟨ho, fun r hr => ⟨t 4 2, hr.trans hL.2.1, hA, by rw [hN]; exact vp_in_nI (by omega) (by omega), fun r5 _ => ⟨ho, ho, ho, fun u1 h1 => ?_⟩⟩⟩
  have hS : S2 B G s t ka s2 u1 := by rw [h1]; exact S_mod h _ _
  have hB : ∀ a j, mB u1 a j = mB u a j := fun a j => by rw [h1]; rfl
  have hN1 : mN u1 (t 4 2) = t 5 2 := by rw [h1]; exact hN
  have hA1 : OB u1 (t 4 2) 13 := by rw [h1]; exact hA
  have hn3 : mI u1 2 (B 0 8) = nI ka.length := hS.2.2.2.2.2.2.2.1.2.2.1
  have ho1 : OB u1 (B 0 8) 0 := hS.2.2.2.2.2.2.2.1.1
  clear h1
  have hL1 := hS.2.2.2.2.2.2.2.1
  have el : mI u1 2 (B 0 8) - (1 : Int32) = nI (ka.length - 1) := by
    rw [hn3]; exact pk_sub (a := ka.length) (b := 1) (by omega)
  have h34 : ∀ v, (v = u1 ∨ ∃ c, v = setC u1 (t 4 2) c) → (∀ j, j < ka.length - 1 → mB v (t 4 2) j = if j < i then mB u1 (t 4 2) j else mB u1 (t 4 2) (j + 1)) → w_Jx4a65c_fastRemove_b59b0_34 G (B 0 8) (t 4 2) (nI i) (fun u6 => K r5 u6) (nI (ka.length - 1)) v := fun v hv hc => by
    have gO : ∀ a k, OB v a k = OB u1 a k := fun a k => by rcases hv with rfl | ⟨c, rfl⟩ <;> rfl
    have gN : ∀ a, mN v a = mN u1 a := fun a => by rcases hv with rfl | ⟨c, rfl⟩ <;> rfl
    refine ⟨by rw [gO]; exact ho1, fun u8 h8 => ⟨?_, ?_, fun u9 h9 => ?_⟩⟩
    · rw [h8, gO_setI, gO]; exact hA1
    · rw [h8, gN_setI, gN, hN1]; exact vp_in_nI (by omega) (by omega)
    · rw [h9, h8, nIc (i := ka.length - 1) (N := 2000) (by omega) (by decide)]
      exact hK _ _ (S_unkeep hS hi hv hc)
  refine ⟨ho1, ?_⟩
  rw [el]
  refine ⟨fun z => h34 u1 (.inl rfl) (fun j hj => ?_), fun z => ?_⟩
  · rw [nI_leI (by omega) (by omega)] at z
    rw [if_pos (by omega)]
  · rw [nI_leI (by omega) (by omega)] at z
    have k1 : nI i + (1 : Int32) = nI (i + 1) := nI_1 i
    have k2 : nI (ka.length - 1) - nI i = nI (ka.length - 1 - i) := pk_sub (by omega)
    have c1 := nIc (i := i + 1) (N := 2000) (by omega) (by decide)
    have c2 := nIc (i := ka.length - 1 - i) (N := 2000) (by omega) (by decide)
    rw [k1, k2, c1, c2, cl, hN1]
    refine ⟨hA1, hA1, nI_pos (by omega), e2, nI_pos (by omega), by omega, by omega, ⟨3, .inr rfl, fun j hj y hy => ?_⟩, fun u3 h3 => h34 u3 (.inr ⟨_, h3⟩) (fun j hj => ?_)⟩
    · have hj2 : i + 1 + j < ka.length := by omega
      rw [hL1.2.2.2.2.2.2 (i + 1 + j) hj2] at hy
      have := (fp hS (kin hS hj2)).1
      have e9 : t 1 (ka.getD (i + 1 + j) 0) = y := Option.some.inj hy
      rw [← e9]
      exact this
    · rw [h3, gB_setC, if_pos rfl]
      unfold va_cpy
      by_cases q : j < i
      · rw [if_neg (by omega), if_pos q]
      · rw [if_pos ⟨by omega, by omega⟩, if_neg q, show i + 1 + (j - i) = j + 1 by omega]
theorem S2kin {k2 : List Nat} (h : S2 B G s t k2 s2 u) {j : Nat} (hj : j ∈ k2) : j < t 3 1 := h.2.2.2.2.2.2.2.2.2.2.1.2.2.2.2.2 j hj
theorem c_erase_l2 {dd : Int32} {K : Int32 → Mem → Prop} : ∀ n pre, pre.length = n → ∀ (suf : List Nat) c u, S2 B G s t (pre ++ suf) s2 u → (pre ++ suf).length ≤ 300 → (∀ u', S2 B G s t (pre.filter (fun j => decide (dd < s 21 j)) ++ suf) s2 u' → K (nI (c + (pre.filter (fun j => decide (s 21 j ≤ dd))).length)) u') → w_X0_eraseDue_12 G (B 0 6) dd K (n + 1) (nI c) (nI n - 1) u := by
  intro n
  induction n with
  | zero =>
    intro pre hp suf c u h hl hK
    have : pre = [] := List.length_eq_zero_iff.mp hp
    subst this
    rw [wS_X0_eraseDue_12]
    refine ⟨fun _ => hK u h, fun z => absurd (by decide : nI 0 - 1 < 0) z⟩
  | succ n ih =>
    intro pre hp suf c u h hl hK
    have hne : pre ≠ [] := fun e => by rw [e] at hp; simp at hp
    have ep := (List.dropLast_concat_getLast hne).symm
    generalize pre.getLast hne = x at ep
    generalize pre.dropLast = p at ep
    subst ep
    have hpn : p.length = n := by simpa using hp
    have hlen : (p ++ [x] ++ suf).length = n + 1 + suf.length := by simp [hpn]; omega
    have hi : n < (p ++ [x] ++ suf).length := by omega
    have hget : (p ++ [x] ++ suf).getD n 0 = x := by
      rw [List.getD_eq_getElem?_getD, List.append_assoc, List.getElem?_append_right (by omega), hpn]
      simp
    have hx : x < t 3 1 := S2kin h (by simp)
    have er : (p ++ [x] ++ suf).eraseIdx n = p ++ suf := by
      rw [List.append_assoc, List.eraseIdx_append_of_length_le (by omega), hpn]
      simp
    obtain ⟨f1, f2, f3, f4, f5, f6, f7, f8, f9, f10, f11, f12, f13, f14, f15, f16, f17, f18, f19, f20, f21, f22⟩ := fd h
    have en : nI (n + 1) - 1 = nI n := nI_pred n
    rw [wS_X0_eraseDue_12, en]
    refine ⟨fun z => absurd z (nI_pos (by omega)), fun _ => ⟨f12, fun r hr => ⟨_, hr.trans f14, f17, ?_⟩⟩⟩
    rw [w_get2 h hi, hget]
    obtain ⟨g1, g2, g3, g4, g5⟩ := fp h hx
    refine ⟨_, rfl, g1, g1, ?_⟩
    rw [g5]
    refine ⟨fun z => ?_, fun z => ⟨f12, fun r hr => ⟨_, hr.trans f14, f17, c_rm h hi hl (fun r' u' h' => ?_)⟩⟩⟩
    · show w_X0_eraseDue_12 G (B 0 6) dd K (n + 1) (nI c) (nI n + (-1)) u
      rw [← Int32.sub_eq_add_neg]
      refine ih p hpn (x :: suf) c u (by simpa using h) (by simpa using hl) (fun u' hu => ?_)
      have hz : ¬ s 21 x ≤ dd := Int32.not_le.mpr z
      have := hK u' (by simpa [List.filter_append, z] using hu)
      simpa [List.filter_append, hz] using this
    · rw [er] at h'
      show w_X0_eraseDue_12 G (B 0 6) dd K (n + 1) (nI c + 1) (nI n + (-1)) u'
      rw [← Int32.sub_eq_add_neg, nI_1]
      refine ih p hpn suf (c + 1) u' h' (by simp at hl ⊢; omega) (fun u2 hu => ?_)
      have hz : s 21 x ≤ dd := Int32.not_lt.mp z
      have := hK u2 (by simpa [List.filter_append, z] using hu)
      rw [show c + 1 + (p.filter (fun j => decide (s 21 j ≤ dd))).length = c + ((p ++ [x]).filter (fun j => decide (s 21 j ≤ dd))).length by simp [List.filter_append, hz]; omega]
      exact this
theorem c_erase (h : S2 B G s t ka s2 u) (hn : ka.length ≤ 300) {dd : Int32} {K : Int32 → Mem → Prop} (hK : ∀ u', S2 B G s t (ka.filter (fun j => decide (dd < s 21 j))) s2 u' → K (nI (ka.filter (fun j => decide (s 21 j ≤ dd))).length) u') : w_X0_eraseDue G (B 0 6) dd u K := by
  obtain ⟨f1, f2, f3, f4, f5, f6, f7, f8, f9, f10, f11, f12, f13, f14, f15, f16, f17, f18, f19, f20, f21, f22⟩ := fd h
  refine ⟨f12, fun r hr => ⟨_, hr.trans f14, f17, f17, ?_⟩⟩
  rw [f20]
  refine ⟨ka.length + 1, ?_⟩
  refine c_erase_l2 ka.length ka rfl [] 0 u (by simpa using h) (by simpa using hn) (fun u' hu => ?_)
  have := hK u' (by simpa using hu)
  simpa using this
theorem c_over_l (h : S2 B G s t ka s2 u) (hn : t 3 0 ≤ 60) {K : Int32 → Mem → Prop} (hY : (∀ w, w < t 3 0 → s 13 w = 3) → K 1 u) (hN : (¬ ∀ w, w < t 3 0 → s 13 w = 3) → K 0 u) : ∀ d i, i + d = t 3 0 → (∀ w, w < i → s 13 w = 3) → w_X5_areAllOver_2 G (B 0 0) K (d + 1) (nI i) u := by
  intro d
  obtain ⟨f1, f2, f3, f4, f5, f6, f7, f8, f9, f10, f11, f12, f13, f14, f15, f16, f17, f18, f19, f20, f21, f22⟩ := fd h
  induction d with
  | zero =>
    intro i hi hno
    have e : nI (t 3 0) ≤ nI i := by rw [nI_leI (by omega) (by omega)]; omega
    rw [wS_X5_areAllOver_2]
    refine ⟨f1, fun r hr => ⟨_, hr.trans f4, f15, f15, ?_⟩⟩
    rw [f18]
    exact ⟨fun _ => ⟨.inr rfl, hY (fun w hw => hno w (by omega))⟩, fun z => absurd e z⟩
  | succ d ih =>
    intro i hi hno
    have hi2 : i < t 3 0 := by omega
    rw [wS_X5_areAllOver_2]
    refine ⟨f1, fun r hr => ⟨_, hr.trans f4, f15, f15, ?_⟩⟩
    rw [f18]
    refine ⟨fun z => absurd z (nle hi2 (by omega)), fun _ => ⟨f1, fun r hr => ⟨_, hr.trans f4, f15, ?_⟩⟩⟩
    rw [w_get0 h hi2]
    obtain ⟨g1, g2, g3, g4, g5, g6, g7, g8⟩ := fw h hi2
    refine ⟨_, rfl, g1, g1, ?_⟩
    rw [g5]
    refine ⟨fun z => ?_, fun z => ⟨.inl rfl, hN (fun y => z (y i hi2))⟩⟩
    rw [nI_1]
    exact ih (i + 1) (by omega) (fun w hw => by
      rcases Nat.lt_or_ge w i with y | y
      · exact hno w y
      · rw [show w = i by omega]; exact z)
theorem c_over (h : S2 B G s t ka s2 u) (hn : t 3 0 ≤ 60) {K : Int32 → Mem → Prop} (hY : (∀ w, w < t 3 0 → s 13 w = 3) → K 1 u) (hN : (¬ ∀ w, w < t 3 0 → s 13 w = 3) → K 0 u) : w_X5_areAllOver G (B 0 0) u K :=
  ⟨t 3 0 + 1, c_over_l h hn hY hN (t 3 0) 0 (by omega) (fun w hw => absurd hw (by omega))⟩
theorem nt1 (hI : Iv s t ka) (hd : s 1 0 < 1000) : ∃ d, d < 1000 ∧ s 1 0 = nI d ∧ s 1 0 + 1 = nI (d + 1) ∧ (∀ j, j < t 3 1 → ((s 21 j ≤ s 1 0 + 1 ∧ s 1 0 < s 21 j) ↔ s 21 j = s 1 0 + 1) ∧ ((s 1 0 + 1 < s 21 j ∧ s 1 0 < s 21 j) ↔ s 1 0 + 1 < s 21 j)) := by
  obtain ⟨d, hd1, e⟩ := hI.1.2.2.2.2.1
  rw [e] at hd ⊢
  have hd2 : d < 1000 := (nI_ltI (a := d) (b := 1000) (by omega) (by omega)).mp hd
  refine ⟨d, hd2, rfl, nI_1 d, fun j hj => ?_⟩
  obtain ⟨x, hx, ex⟩ := hI.2.2.2.2.2.2.2.2.2.1 j hj
  rw [ex, nI_1, nI_leI (by omega) (by omega), nI_ltI (by omega) (by omega), nI_ltI (by omega) (by omega), nI_eq (by omega) (by omega)]
  omega
theorem nt2 (hI : Iv s t ka) (hd : s 1 0 < 1000) : (ka.filter (fun j => decide (s 21 j ≤ s 1 0 + 1))).length = ((List.range (t 3 1)).filter (fun j => decide (s 21 j = s 1 0 + 1))).length ∧ ka.filter (fun j => decide (s 1 0 + 1 < s 21 j)) = (List.range (t 3 1)).filter (fun j => decide (s 1 0 + 1 < s 21 j)) := by
  obtain ⟨d, _, _, _, hh⟩ := nt1 hI hd
  have eka := hI.2.2.2.2.2.2.2.2.2.2
  constructor
  · rw [eka, List.filter_filter]
    congr 1
    refine List.filter_congr (fun j hj => ?_)
    have := (hh j (List.mem_range.mp hj)).1
    rw [← Bool.decide_and]
    exact decide_eq_decide.mpr this
  · rw [eka, List.filter_filter]
    refine List.filter_congr (fun j hj => ?_)
    have := (hh j (List.mem_range.mp hj)).2
    rw [← Bool.decide_and]
    exact decide_eq_decide.mpr this
theorem I_night (hI : Iv s t ka) (hd : s 1 0 < 1000) : Iv (up2 (up2 s 1 0 (s 1 0 + 1)) 2 0 0) t (ka.filter (fun j => decide (s 1 0 + 1 < s 21 j))) := by
  obtain ⟨d, hd1, e1, e2, _⟩ := nt1 hI hd
  have e3 := (nt2 hI hd).2
  obtain ⟨⟨j0, j1, j2, j3, j4, j5⟩, i1, i2, i3, i4, i5, i6, i7, i8, i9, i10⟩ := hI
  refine ⟨⟨j0, j1, by simpa [up2_at] using j2, by simpa [up2_at] using j3, ⟨d + 1, by omega, by simpa [up2_at] using e2⟩, ⟨0, by omega, by simp [up2_at]; rfl⟩⟩, by simpa [up2_at] using i1, by simpa [up2_at] using i2, by simpa [up2_at] using i3, by simpa [up2_at] using i4, by simpa [up2_at] using i5, by simpa [up2_at] using i6, by simpa [up2_at] using i7, by simpa [up2_at] using i8, by simpa [up2_at] using i9, ?_⟩
  simpa [up2_at] using e3
theorem c_nightY {mc ms : Nat} (h : S2 B G s t ka s2 u) (hI : Iv s t ka) (hd : s 1 0 < 1000) (ho : ∀ w, w < t 3 0 → s 13 w = 3) {K : Int32 → Mem → Prop} {X : String → Mem → Prop} (hK : ∀ u', S2 B G (up2 (up2 s 1 0 (s 1 0 + 1)) 2 0 0) t (ka.filter (fun j => decide (s 1 0 + 1 < s 21 j))) s2 u' → K (nI (ka.filter (fun j => decide (s 21 j ≤ s 1 0 + 1))).length) u') : w_X5_night G (B 0 0) mc ms u K X := by
  have f1 := (fd h).1
  refine ⟨f1, c_over h hI.1.1 (fun _ => ⟨fun z => absurd z (by decide), fun _ => ⟨f1, ?_⟩⟩) (fun z => absurd ho z)⟩
  have e196 : mI u 196 (B 0 0) = s 1 0 := (fd h).2.2.2.2.2.1
  rw [e196]
  refine ⟨fun _ => ⟨f1, f1, fun u5 h5 => ?_⟩, fun z => absurd hd z⟩
  have h5' := S_day h (s 1 0 + 1)
  rw [← h5] at h5'
  refine ⟨(fd h5').1, fun u6 h6 => ?_⟩
  have h6' := S_minute h5' 0
  rw [← h6] at h6'
  clear h5 h6
  have g := fd h6'
  refine ⟨g.1, fun r hr => ⟨g.1, B 0 6, hr.trans g.2.2.2.2.1, g.2.2.2.2.2.2.2.2.2.2.2.1, ?_⟩⟩
  have e9 : mI u6 196 (B 0 0) = s 1 0 + 1 := by rw [g.2.2.2.2.2.1]; simp [up2_at]
  rw [e9]
  refine c_erase h6' (ka_len hI) (fun u' hu => ?_)
  have := hK u' (by simpa [up2_at] using hu)
  simpa [up2_at] using this
theorem c_nightN (h : S2 B G s t ka s2 u) (hI : Iv s t ka) (hno : ¬ (s 1 0 < 1000 ∧ ∀ w, w < t 3 0 → s 13 w = 3)) {K : Int32 → Mem → Prop} {X : String → Mem → Prop} (hX : X "java/lang/IllegalStateException" u) : w_X5_night G (B 0 0) 1 6 u K X := by
  have f1 := (fd h).1
  refine ⟨f1, c_over h hI.1.1 (fun y => ⟨fun z => absurd z (by decide), fun _ => ⟨f1, ?_⟩⟩) (fun _ => ⟨fun _ => ⟨Nat.le_refl _, Nat.le_refl _, hX⟩, fun z => absurd rfl z⟩)⟩
  have e196 : mI u 196 (B 0 0) = s 1 0 := (fd h).2.2.2.2.2.1
  rw [e196]
  exact ⟨fun z => absurd ⟨z, y⟩ hno, fun _ => ⟨Nat.le_refl _, Nat.le_refl _, hX⟩⟩
end S2P
