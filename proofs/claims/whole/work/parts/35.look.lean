section S2P
variable {B : Nat → Nat → Nat} {G : Ctx} {s s2 : Nat → Nat → Int32} {t : Nat → Nat → Nat} {ka : List Nat} {u : Mem}
def Qp (s : Nat → Nat → Int32) (a b c : Int32) (k : Nat) : Prop := s 18 k = a ∧ s 19 k = b ∧ s 20 k = c
theorem isOf_t (h : S2 B G s t ka s2 u) {k : Nat} (hk : k < t 3 1) {a b c : Int32} (hq : Qp s a b c k) {K : Int32 → Mem → Prop} (hK : K 1 u) : w_X2_isOf G (t 1 k) a b c u K := by
  obtain ⟨q1, q2, q3⟩ := hq
  simp [w_X2_isOf, fp h hk, q1, q2, q3, hK]
theorem isOf_f (h : S2 B G s t ka s2 u) {k : Nat} (hk : k < t 3 1) {a b c : Int32} (hq : ¬ Qp s a b c k) {K : Int32 → Mem → Prop} (hK : K 0 u) : w_X2_isOf G (t 1 k) a b c u K := by
  by_cases q1 : s 18 k = a
  · by_cases q2 : s 19 k = b
    · have q3 : ¬ s 20 k = c := fun q3 => hq ⟨q1, q2, q3⟩
      simp [w_X2_isOf, fp h hk, q1, q2, q3, hK]
    · simp [w_X2_isOf, fp h hk, q1, q2, hK]
  · simp [w_X2_isOf, fp h hk, q1, hK]
theorem nle {i n : Nat} (h : i < n) (hn : n < 2 ^ 31) : ¬ (nI n ≤ nI i) := by rw [nI_leI (by omega) (by omega)]; omega
theorem c_keeps_l (h : S2 B G s t ka s2 u) (hn : ka.length ≤ 300) {a b c : Int32} {K : Int32 → Mem → Prop} (hK : ∀ r, (r = 0 ∨ r = 1) → (r = 1 ↔ ∃ i, i < ka.length ∧ Qp s a b c (ka.getD i 0)) → K r u) : ∀ d i, i + d = ka.length → (∀ i', i' < i → ¬ Qp s a b c (ka.getD i' 0)) → w_X0_keeps_3 G (B 0 6) a b c K (d + 1) (nI i) u := by
  intro d
  have f := fd h
  obtain ⟨f1, f2, f3, f4, f5, f6, f7, f8, f9, f10, f11, f12, f13, f14, f15, f16, f17, f18, f19, f20, f21, f22⟩ := f
  induction d with
  | zero =>
    intro i hi hno
    have e : nI ka.length ≤ nI i := by rw [nI_leI (by omega) (by omega)]; omega
    rw [wS_X0_keeps_3]
    refine ⟨f12, fun r hr => ⟨_, hr.trans f14, f17, f17, ?_⟩⟩
    rw [f20]
    refine ⟨fun _ => ⟨.inl rfl, hK 0 (.inl rfl) ⟨fun z => absurd z (by decide), fun ⟨j, hj, hq⟩ => absurd hq (hno j (by omega))⟩⟩, fun z => absurd e z⟩
  | succ d ih =>
    intro i hi hno
    have hi2 : i < ka.length := by omega
    rw [wS_X0_keeps_3]
    refine ⟨f12, fun r hr => ⟨_, hr.trans f14, f17, f17, ?_⟩⟩
    rw [f20]
    refine ⟨fun z => absurd z (nle hi2 (by omega)), fun _ => ⟨f12, fun r hr => ⟨_, hr.trans f14, f17, ?_⟩⟩⟩
    rw [w_get2 h hi2]
    have hk := kin h hi2
    refine ⟨_, rfl, (fp h hk).1, (fp h hk).1, ?_⟩
    by_cases hq : Qp s a b c (ka.getD i 0)
    · exact isOf_t h hk hq ⟨fun z => absurd z (by decide), fun _ => ⟨.inr rfl, hK 1 (.inr rfl) ⟨fun _ => ⟨i, hi2, hq⟩, fun _ => rfl⟩⟩⟩
    · refine isOf_f h hk hq ⟨fun _ => ?_, fun z => absurd rfl z⟩
      show w_X0_keeps_3 G (B 0 6) a b c K (d + 1) (nI i + 1) u
      rw [nI_1]
      exact ih (i + 1) (by omega) (fun i' hi' => by
        rcases Nat.lt_or_ge i' i with y | y
        · exact hno i' y
        · rw [show i' = i by omega]; exact hq)
theorem c_keeps (h : S2 B G s t ka s2 u) (hn : ka.length ≤ 300) {a b c : Int32} {K : Int32 → Mem → Prop} (hK : ∀ r, (r = 0 ∨ r = 1) → (r = 1 ↔ ∃ i, i < ka.length ∧ Qp s a b c (ka.getD i 0)) → K r u) : w_X0_keeps G (B 0 6) a b c u K :=
  ⟨ka.length + 1, c_keeps_l h hn hK ka.length 0 (by omega) (fun i' hi' => absurd hi' (by omega))⟩
theorem c_papers_l (h : S2 B G s t ka s2 u) (hn : t 3 1 ≤ 300) {a b c dd : Int32} {K : Int32 → Mem → Prop} (hK : ∀ r, (r = 0 ∨ r = 1) → (r = 1 ↔ ∃ i, i < t 3 1 ∧ Qp s a b c i ∧ dd < s 21 i) → K r u) : ∀ d i, i + d = t 3 1 → (∀ i', i' < i → ¬ (Qp s a b c i' ∧ dd < s 21 i')) → w_X0_papersTell_3 G (B 0 6) a b c dd K (d + 1) (nI i) u := by
  intro d
  have f := fd h
  obtain ⟨f1, f2, f3, f4, f5, f6, f7, f8, f9, f10, f11, f12, f13, f14, f15, f16, f17, f18, f19, f20, f21, f22⟩ := f
  induction d with
  | zero =>
    intro i hi hno
    have e : nI (t 3 1) ≤ nI i := by rw [nI_leI (by omega) (by omega)]; omega
    rw [wS_X0_papersTell_3]
    refine ⟨f12, fun r hr => ⟨_, hr.trans f13, f16, f16, ?_⟩⟩
    rw [f19]
    refine ⟨fun _ => ⟨.inl rfl, hK 0 (.inl rfl) ⟨fun z => absurd z (by decide), fun ⟨j, hj, hq⟩ => absurd hq (hno j (by omega))⟩⟩, fun z => absurd e z⟩
  | succ d ih =>
    intro i hi hno
    have hi2 : i < t 3 1 := by omega
    rw [wS_X0_papersTell_3]
    refine ⟨f12, fun r hr => ⟨_, hr.trans f13, f16, f16, ?_⟩⟩
    rw [f19]
    refine ⟨fun z => absurd z (nle hi2 (by omega)), fun _ => ⟨f12, fun r hr => ⟨_, hr.trans f13, f16, ?_⟩⟩⟩
    rw [w_get1 h hi2]
    obtain ⟨g1, g2, g3, g4, g5⟩ := fp h hi2
    refine ⟨_, rfl, g1, g1, ?_⟩
    have hgo : ¬ (Qp s a b c i ∧ dd < s 21 i) → w_X0_papersTell_3 G (B 0 6) a b c dd K (d + 1) (nI i + 1) u := fun hq => by
      rw [nI_1]
      exact ih (i + 1) (by omega) (fun i' hi' => by
        rcases Nat.lt_or_ge i' i with y | y
        · exact hno i' y
        · rw [show i' = i by omega]; exact hq)
    by_cases hq : Qp s a b c i
    · refine isOf_t h hi2 hq ⟨fun z => absurd z (by decide), fun _ => ⟨g1, ?_⟩⟩
      rw [g5]
      exact ⟨fun z => hgo (fun k => absurd z (Int32.not_le.mpr k.2)), fun z => ⟨.inr rfl, hK 1 (.inr rfl) ⟨fun _ => ⟨i, hi2, hq, Int32.not_le.mp z⟩, fun _ => rfl⟩⟩⟩
    · exact isOf_f h hi2 hq ⟨fun _ => hgo (fun k => hq k.1), fun z => absurd rfl z⟩
theorem c_papers (h : S2 B G s t ka s2 u) (hn : t 3 1 ≤ 300) {a b c dd : Int32} {K : Int32 → Mem → Prop} (hK : ∀ r, (r = 0 ∨ r = 1) → (r = 1 ↔ ∃ i, i < t 3 1 ∧ Qp s a b c i ∧ dd < s 21 i) → K r u) : w_X0_papersTell G (B 0 6) a b c dd u K :=
  ⟨t 3 1 + 1, c_papers_l h hn hK (t 3 1) 0 (by omega) (fun i' hi' => absurd hi' (by omega))⟩
theorem m_tk_l (h : S2 B G s t ka s2 u) {m : Nat} (hm : s2 17 0 = nI m) (hn : m ≤ 300) {a b c : Int32} {K : Int32 → Mem → Prop} : ∀ d i v, i + d = m → (v = 0 ∨ v = 1) → (∀ r, (r = 0 ∨ r = 1) → (r = 1 ↔ v = 1 ∨ ∃ k, i ≤ k ∧ k < m ∧ Qp s2 a b c k ∧ s2 1 0 < s2 21 k) → K r u) → w_X6_isTaken_6 G (B 0 1) a b c K (d + 1) v (nI i) u := by
  intro d
  have f := (fm h).1
  have e241 : mI u 241 (B 0 1) = nI m := by rw [← hm]; exact (fm h).2.2.2.2.1
  have e225 : mI u 225 (B 0 1) = s2 1 0 := (fm h).2.1
  induction d with
  | zero =>
    intro i v hi hv hK
    have e : nI m ≤ nI i := by rw [nI_leI (by omega) (by omega)]; omega
    rw [wS_X6_isTaken_6]
    refine ⟨f, ?_⟩
    rw [e241]
    refine ⟨fun _ => ⟨hv, hK v hv ⟨.inl, fun z => z.elim id (fun ⟨k, k1, k2, _⟩ => absurd k1 (by omega))⟩⟩, fun z => absurd e z⟩
  | succ d ih =>
    intro i v hi hv hK
    have hi2 : i < m := by omega
    rw [wS_X6_isTaken_6]
    refine ⟨f, ?_⟩
    rw [e241]
    refine ⟨fun z => absurd z (nle hi2 (by omega)), fun _ => ⟨fun hv0 => ?_, fun hv0 => ?_⟩⟩
    · subst hv0
      have h0 : ¬ (Qp s2 a b c i ∧ s2 1 0 < s2 21 i) → w_X6_isTaken_6 G (B 0 1) a b c K (d + 1) 0 (nI i + 1) u := fun hq => by
        rw [nI_1]
        refine ih (i + 1) 0 (by omega) (.inl rfl) (fun r hr e => hK r hr (e.trans ⟨fun z => ?_, fun z => ?_⟩))
        · rcases z with z | ⟨k, k1, k2, k3⟩
          · exact .inl z
          · exact .inr ⟨k, by omega, k2, k3⟩
        · rcases z with z | ⟨k, k1, k2, k3⟩
          · exact .inl z
          · rcases Nat.eq_or_lt_of_le k1 with y | y
            · subst y; exact absurd k3 hq
            · exact .inr ⟨k, by omega, k2, k3⟩
      have w := vp_in_nI (n := i) (N := 300) (by omega) (by decide)
      have cl := nIc (i := i) (N := 300) (by omega) (by decide)
      obtain ⟨p1, p2, p3, p4⟩ := fa_p h (i := i) (by omega)
      have r18 := fr h (k := 18) (by unfold ak; omega)
      have r19 := fr h (k := 19) (by unfold ak; omega)
      have r20 := fr h (k := 20) (by unfold ak; omega)
      have r21 := fr h (k := 21) (by unfold ak; omega)
      refine ⟨f, fun r hr => ⟨_, hr.trans r18.1, r18.2.1, by rw [r18.2.2]; exact w, ?_⟩⟩
      rw [cl, p1]
      refine ⟨fun q1 => ⟨f, fun r hr => ⟨_, hr.trans r19.1, r19.2.1, by rw [r19.2.2]; exact w, ?_⟩⟩, fun q1 => h0 (fun z => q1 z.1.1)⟩
      rw [p2]
      refine ⟨fun q2 => ⟨f, fun r hr => ⟨_, hr.trans r20.1, r20.2.1, by rw [r20.2.2]; exact w, ?_⟩⟩, fun q1 => h0 (fun z => q1 z.1.2.1)⟩
      rw [p3]
      refine ⟨fun q3 => ⟨f, f, fun r hr => ⟨_, hr.trans r21.1, r21.2.1, by rw [r21.2.2]; exact w, ?_⟩⟩, fun q1 => h0 (fun z => q1 z.1.2.2)⟩
      rw [p4, e225]
      refine ⟨fun q4 => h0 (fun z => absurd q4 (Int32.not_le.mpr z.2)), fun q4 => ?_⟩
      show w_X6_isTaken_6 G (B 0 1) a b c K (d + 1) 1 (nI i + 1) u
      rw [nI_1]
      exact ih (i + 1) 1 (by omega) (.inr rfl) (fun r hr e => hK r hr (e.trans ⟨fun _ => .inr ⟨i, Nat.le_refl _, hi2, ⟨q1, q2, q3⟩, Int32.not_le.mp q4⟩, fun _ => .inl rfl⟩))
    · have hv1 := hv.resolve_left hv0
      subst hv1
      show w_X6_isTaken_6 G (B 0 1) a b c K (d + 1) 1 (nI i + 1) u
      rw [nI_1]
      exact ih (i + 1) 1 (by omega) (.inr rfl) (fun r hr e => hK r hr (e.trans ⟨fun _ => .inl rfl, fun _ => .inl rfl⟩))
theorem m_tk (h : S2 B G s t ka s2 u) {m : Nat} (hm : s2 17 0 = nI m) (hn : m ≤ 300) {a b c : Int32} {K : Int32 → Mem → Prop} (hK : ∀ r, (r = 0 ∨ r = 1) → (r = 1 ↔ ∃ k, k < m ∧ Qp s2 a b c k ∧ s2 1 0 < s2 21 k) → K r u) : w_X6_isTaken G (B 0 1) a b c u K :=
  ⟨m + 1, m_tk_l h hm hn m 0 0 (by omega) (.inl rfl) (fun r hr e => hK r hr (e.trans ⟨fun z => by
    rcases z with z | ⟨k, _, k2, k3⟩
    · exact absurd z (by decide)
    · exact ⟨k, k2, k3⟩, fun ⟨k, k2, k3⟩ => .inr ⟨k, Nat.zero_le _, k2, k3⟩⟩))⟩
theorem kmem {ka : List Nat} {P : Nat → Prop} : (∃ i, i < ka.length ∧ P (ka.getD i 0)) ↔ ∃ k, k ∈ ka ∧ P k := by
  constructor
  · rintro ⟨i, hi, hp⟩
    rw [List.getD_eq_getElem?_getD, List.getElem?_eq_getElem hi] at hp
    exact ⟨_, List.getElem_mem hi, hp⟩
  · rintro ⟨k, hk, hp⟩
    obtain ⟨i, hi, e⟩ := List.getElem_of_mem hk
    refine ⟨i, hi, ?_⟩
    rw [List.getD_eq_getElem?_getD, List.getElem?_eq_getElem hi]
    simpa [e] using hp
theorem ka_iff (hI : Iv s t ka) {k : Nat} : k ∈ ka ↔ k < t 3 1 ∧ s 1 0 < s 21 k := by
  rw [hI.2.2.2.2.2.2.2.2.2.2, List.mem_filter, List.mem_range]
  simp
theorem ka_len (hI : Iv s t ka) : ka.length ≤ 300 := by
  have h1 : ka.length ≤ (List.range (t 3 1)).length := by
    rw [hI.2.2.2.2.2.2.2.2.2.2]; exact List.length_filter_le _ _
  rw [List.length_range] at h1
  have := hI.1.2.1
  omega
theorem same01 {r r' : Int32} {P : Prop} (h : r = 0 ∨ r = 1) (h' : r' = 0 ∨ r' = 1) (e : r = 1 ↔ P) (e' : r' = 1 ↔ P) : r = r' := by
  rcases h with h | h <;> rcases h' with h' | h'
  · rw [h, h']
  · exact absurd (e.mpr (e'.mp h')) (by rw [h]; decide)
  · exact absurd (e'.mpr (e.mp h)) (by rw [h']; decide)
  · rw [h, h']
end S2P
