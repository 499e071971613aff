section S2L
variable {B : Nat → Nat → Nat} {G : Ctx} {s z : Nat → Nat → Int32} {t : Nat → Nat → Nat} {ka : List Nat} {u : Mem} {n m : Nat}
def lw (v : Int32) (N : Nat) : Nat := (v.toBitVec.toNat % 2 ^ 31) % N
theorem lw_lt (v : Int32) {N : Nat} (h : 0 < N) : lw v N < N := Nat.mod_lt _ h
theorem l_low {v x : Int32} {N : Nat} (hN : 0 < N) (hN2 : N < 2 ^ 31) (hx : x = nI N) {K : Int32 → Mem → Prop} (hK : K (nI (lw v N)) u) : w_L_low G v x u K := by
  subst hx
  refine ⟨nI_ne0 hN hN2, ?_⟩
  have e : v &&& (2147483647 : Int32) = nI (v.toBitVec.toNat % 2 ^ 31) := pk_and v 31 (by decide)
  rw [e, pk_rem (Nat.mod_lt _ (by decide)) hN hN2]
  exact hK
theorem l_cell {i : Nat} (hi : i < 2 ^ 31) (hG : G.2.2 4 < 2 ^ 31) {K : Int32 → Mem → Prop} (hK : ∀ r, K r u) : w_L_cell G (G.2.2 3) (nI i) u K := by
  refine ⟨rfl, fun _ => hK _, fun y => ⟨rfl, ?_, hK _⟩⟩
  rw [nI_leI hG hi] at y
  exact vp_in_nI (by omega) hG
theorem tw1 : ∀ f, f < 8 → ∀ d, d < 8 → nI d ≤ nI f → (nI f - nI d ≤ (4 : Int32) → nI f - nI d = nI (dst f d)) ∧ (¬ nI f - nI d ≤ (4 : Int32) → (8 : Int32) - (nI f - nI d) = nI (dst f d)) := by decide +kernel
theorem tw2 : ∀ f, f < 8 → ∀ d, d < 8 → ¬ nI d ≤ nI f → (nI d - nI f ≤ (4 : Int32) → nI d - nI f = nI (dst f d)) ∧ (¬ nI d - nI f ≤ (4 : Int32) → (8 : Int32) - (nI d - nI f) = nI (dst f d)) := by decide +kernel
theorem l_way {f d : Nat} (hf : f < 8) (hd : d < 8) {K : Int32 → Mem → Prop} (hK : K (nI (dst f d)) u) : w_L_way G (nI f) (nI d) u K := by
  refine ⟨fun y => ⟨fun y2 => ?_, fun y2 => ?_⟩, fun y => ⟨fun y2 => ?_, fun y2 => ?_⟩⟩
  · rw [(tw1 f hf d hd y).1 y2]; exact hK
  · rw [(tw1 f hf d hd y).2 y2]; exact hK
  · rw [(tw2 f hf d hd y).1 y2]; exact hK
  · rw [(tw2 f hf d hd y).2 y2]; exact hK
theorem ts1 : ∀ f, f < 8 → ∀ d, d < 8 → ¬ f = d → (nI (dst f d) ≤ nI (dst ((f + 1) % 8) d) → (nI f + 7) - (nI f + 7) / (8 : Int32) * (8 : Int32) = nI (stp f d)) ∧ (¬ nI (dst f d) ≤ nI (dst ((f + 1) % 8) d) → nI ((f + 1) % 8) = nI (stp f d)) := by decide +kernel
theorem ts0 : ∀ f, f < 8 → stp f f = f := by decide +kernel
theorem l_step {f d : Nat} (hf : f < 8) (hd : d < 8) {K : Int32 → Mem → Prop} (hK : K (nI (stp f d)) u) : w_L_step G (nI f) (nI d) u K := by
  refine ⟨x8, fun y => ?_, fun y => ?_⟩
  · have e : f = d := (nI_eq (by omega) (by omega)).mp y
    subst e
    rw [ts0 f hf] at hK; exact hK
  · have hne : ¬ f = d := fun e => y (by rw [e])
    have e1 := (fmu f hf).2
    rw [e1]
    refine l_way (Nat.mod_lt _ (by decide)) hd (l_way hf hd ⟨fun y2 => ⟨x8, ?_⟩, fun y2 => ?_⟩)
    · rw [(ts1 f hf d hd hne).1 y2]; exact hK
    · rw [(ts1 f hf d hd hne).2 y2]; exact hK
theorem dy1 (h : S2 B G s t ka z u) {k j x S l M : Nat} (hk : k < 8) (hj : 3 ≤ j ∧ j < 6) (hx : z 1 (6 * k + j) = nI x) (hx2 : x < 2 ^ 31) (hl : l < 2 ^ 31) (hM : M < 2 ^ 31) {K : Int32 → Mem → Prop} {J : Int32 → Int32 → Int32 → Int32 → Mem → Prop} (hK : J (nI (S + x)) (nI (min l x)) (nI (max M x)) (nI (j + 1)) u) : b_L_days_11 G (nI k) (B 4 1) K J (nI S) (nI l) (nI M) (nI j) u := by
  obtain ⟨o1, o2, o3⟩ := rd h 1 (6 * k + j) (by omega) (j6a k j) (by show 6 * k + j < 48; omega)
  have n6 : ¬ ((6 : Int32) ≤ nI j) := nI_ge (a := j) (b := 6) (by omega) (by omega)
  rw [hx] at o3
  refine ⟨fun y => absurd y n6, fun _ => ⟨o1, o2, ?_⟩⟩
  rw [o3]
  have fin : ∀ a : Int32, a = nI (min l x) → w_L_days_46 G (nI k) (B 4 1) K J (nI S + nI x) (nI M) (nI j) (nI x) a u := fun a ha => by
    subst ha
    refine ⟨fun y => ?_, fun y => ?_⟩
    · rw [nI_leI hx2 hM] at y
      show J (nI S + nI x) (nI (min l x)) (nI M) (nI j + 1) u
      rw [nI_add, nI_1]
      rw [show max M x = M by omega] at hK
      exact hK
    · rw [nI_leI hx2 hM] at y
      show J (nI S + nI x) (nI (min l x)) (nI x) (nI j + 1) u
      rw [nI_add, nI_1]
      rw [show max M x = x by omega] at hK
      exact hK
  refine ⟨fun y => fin _ ?_, fun y => fin _ ?_⟩
  · rw [nI_leI hl hx2] at y
    rw [show min l x = l by omega]
  · rw [nI_leI hl hx2] at y
    rw [show min l x = x by omega]
theorem l_days (h : S2 B G s t ka z u) {k a b c : Nat} (hk : k < 8) (ea : z 1 (6 * k + 3) = nI a) (eb : z 1 (6 * k + 4) = nI b) (ec : z 1 (6 * k + 5) = nI c) (ha : 1 ≤ a ∧ a ≤ 30) (hb : 1 ≤ b ∧ b ≤ 30) (hc : 1 ≤ c ∧ c ≤ 30) {K : Int32 → Mem → Prop} (hK : K (nI (med a b c)) u) : w_L_days G (nI k) (B 4 1) u K := by
  refine ⟨4, ?_⟩
  show w_L_days_11 G (nI k) (B 4 1) K (3 + 1) (nI 0) (nI 31) (nI 0) (nI 3) u
  rw [wS_L_days_11]
  refine dy1 h hk (by omega) ea (by omega) (by omega) (by omega) ?_
  show w_L_days_11 G (nI k) (B 4 1) K (2 + 1) _ _ _ _ u
  rw [wS_L_days_11]
  refine dy1 h hk (by omega) eb (by omega) (by omega) (by omega) ?_
  show w_L_days_11 G (nI k) (B 4 1) K (1 + 1) _ _ _ _ u
  rw [wS_L_days_11]
  refine dy1 h hk (by omega) ec (by omega) (by omega) (by omega) ?_
  show w_L_days_11 G (nI k) (B 4 1) K (0 + 1) _ _ _ _ u
  rw [wS_L_days_11]
  refine ⟨fun _ => ?_, fun y => absurd (by decide) y⟩
  rw [pk_sub (by omega), pk_sub (by omega)]
  have e : 0 + a + b + c - min (min (min 31 a) b) c - max (max (max 0 a) b) c = med a b c := by unfold med; omega
  rw [e]
  exact hK
/-- the papers that are told: by the law's rows -/
theorem l_shows_l (h : S2 B G s t ka z u) (hm : z 0 3 = nI m) (hm4 : m ≤ 40) {x y d : Int32} (hd : ¬ d < 0) {K : Int32 → Mem → Prop} : ∀ g i v, i + g = m → (v = 0 ∨ v = 1) → (∀ r, (r = 0 ∨ r = 1) → (r = 1 ↔ v = 1 ∨ ∃ k, i ≤ k ∧ k < m ∧ z 4 k = x + (8 : Int32) * y + (64 : Int32) * d ∧ z 0 0 < z 5 k) → K r u) → w_L_shows_6 G x y d (B 4 4) (B 4 5) (B 4 0) K (g + 1) v (nI i) u := by
  obtain ⟨o1, o2, o3⟩ := rd h 0 3 (by omega) (x := 3) rfl (by decide)
  obtain ⟨p1, p2, p3⟩ := rd h 0 0 (by omega) (x := 0) rfl (by decide)
  rw [hm] at o3
  intro g
  induction g with
  | zero =>
    intro i v hi hv hK
    have e : nI m ≤ nI i := by rw [nI_leI (by omega) (by omega)]; omega
    rw [wS_L_shows_6]
    refine ⟨o1, o2, ?_⟩
    rw [o3]
    exact ⟨fun _ => ⟨hv, hK v hv ⟨.inl, fun q => q.elim id (fun ⟨k, k1, k2, _⟩ => absurd k1 (by omega))⟩⟩, fun q => absurd e q⟩
  | succ g ih =>
    intro i v hi hv hK
    have hi2 : i < m := by omega
    obtain ⟨a1, a2, a3⟩ := rd h 4 i (by omega) (x := nI i) rfl (by show i < 40; omega)
    obtain ⟨b1, b2, b3⟩ := rd h 5 i (by omega) (x := nI i) rfl (by show i < 40; omega)
    rw [wS_L_shows_6]
    refine ⟨o1, o2, ?_⟩
    rw [o3]
    refine ⟨fun q => absurd q (nle hi2 (by omega)), fun _ => ⟨fun hv0 => ?_, fun hv0 => ?_⟩⟩
    · subst hv0
      have h0 : ¬ (z 4 i = x + (8 : Int32) * y + (64 : Int32) * d ∧ z 0 0 < z 5 i) → w_L_shows_58 G x y d (B 4 4) (B 4 5) (B 4 0) K (w_L_shows_6 G x y d (B 4 4) (B 4 5) (B 4 0) K (g + 1)) (nI i) u := fun hq => by
        show w_L_shows_6 G x y d (B 4 4) (B 4 5) (B 4 0) K (g + 1) 0 (nI i + 1) u
        rw [nI_1]
        refine ih (i + 1) 0 (by omega) (.inl rfl) (fun r hr e => hK r hr (e.trans ⟨fun q => ?_, fun q => ?_⟩))
        · rcases q with q | ⟨k, k1, k2, k3⟩
          · exact .inl q
          · exact .inr ⟨k, by omega, k2, k3⟩
        · rcases q with q | ⟨k, k1, k2, k3⟩
          · exact .inl q
          · rcases Nat.eq_or_lt_of_le k1 with q2 | q2
            · subst q2; exact absurd k3 hq
            · exact .inr ⟨k, by omega, k2, k3⟩
      refine ⟨fun q => absurd q hd, fun _ => ⟨a1, a2, ?_⟩⟩
      rw [a3]
      refine ⟨fun q1 => ⟨b1, b2, p1, p2, ?_⟩, fun q1 => h0 (fun q => q1 q.1)⟩
      rw [b3, p3]
      refine ⟨fun q2 => h0 (fun q => absurd q2 (Int32.not_le.mpr q.2)), fun q2 => ?_⟩
      show w_L_shows_6 G x y d (B 4 4) (B 4 5) (B 4 0) K (g + 1) 1 (nI i + 1) u
      rw [nI_1]
      exact ih (i + 1) 1 (by omega) (.inr rfl) (fun r hr e => hK r hr (e.trans ⟨fun _ => .inr ⟨i, Nat.le_refl _, hi2, q1, Int32.not_le.mp q2⟩, fun _ => .inl rfl⟩))
    · have hv1 := hv.resolve_left hv0
      subst hv1
      show w_L_shows_6 G x y d (B 4 4) (B 4 5) (B 4 0) K (g + 1) 1 (nI i + 1) u
      rw [nI_1]
      exact ih (i + 1) 1 (by omega) (.inr rfl) (fun r hr e => hK r hr (e.trans ⟨fun _ => .inl rfl, fun _ => .inl rfl⟩))
theorem pc1 (a b c : Nat) : nI a + (8 : Int32) * nI b + (64 : Int32) * nI c = nI (a + 8 * b + 64 * c) := by
  rw [show (8 : Int32) * nI b = nI (8 * b) from pk_mul 8 b, show (64 : Int32) * nI c = nI (64 * c) from pk_mul 64 c, nI_add, nI_add]
theorem l_shows {σ : Nat → Nat → Int32} (h : S2 B G σ t ka z u) (hR : Rel s n m z) (hQ : Qg s n m) (hn : n ≤ 8) (hm4 : m ≤ 40) {a b c : Nat} (ha : a < 8) (hb : b < 8) (hc : c ≤ 2000) {K : Int32 → Mem → Prop} (hK : ∀ r, (r = 0 ∨ r = 1) → (r = 1 ↔ ∃ k, k < m ∧ Qp s (nI a) (nI b) (nI c) k ∧ s 1 0 < s 21 k) → K r u) : w_L_shows G (nI a) (nI b) (nI c) (B 4 4) (B 4 5) (B 4 0) u K := by
  refine ⟨m + 1, l_shows_l (s := σ) (t := t) (ka := ka) h hR.1.2.2.2 hm4 (nI_pos (by omega)) m 0 0 (by omega) (.inl rfl) (fun r hr e => hK r hr (e.trans ⟨fun q => ?_, fun ⟨k, k2, k3, k4⟩ => .inr ⟨k, Nat.zero_le _, k2, ?_, ?_⟩⟩))⟩
  · rcases q with q | ⟨k, _, k2, k3, k4⟩
    · exact absurd q (by decide)
    · obtain ⟨a', b', c', g1, g2, g3, g4, g5, g6⟩ := hQ k k2
      obtain ⟨r1, r2⟩ := hR.2.2.2.2.2 k k2
      rw [r1, g4, g5, g6, pc1, pc1] at k3
      have k3 := (nI_eq (by omega) (by omega)).mp k3
      rw [hR.1.1, r2] at k4
      exact ⟨k, k2, ⟨by rw [g4, show a' = a by omega], by rw [g5, show b' = b by omega], by rw [g6, show c' = c by omega]⟩, k4⟩
  · obtain ⟨r1, r2⟩ := hR.2.2.2.2.2 k k2
    rw [r1, k3.1, k3.2.1, k3.2.2]
  · obtain ⟨r1, r2⟩ := hR.2.2.2.2.2 k k2
    rw [hR.1.1, r2]; exact k4
end S2L
