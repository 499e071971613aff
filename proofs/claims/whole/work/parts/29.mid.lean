section S2P
variable {B : Nat → Nat → Nat} {G : Ctx} {s s2 : Nat → Nat → Int32} {t : Nat → Nat → Nat} {ka : List Nat} {u : Mem}
def upw (f d : Nat) : Nat := (d + 8 - f) % 8
def dst (f d : Nat) : Nat := if upw f d ≤ 4 then upw f d else 8 - upw f d
def stp (f d : Nat) : Nat := if upw f d = 0 then f else if upw f d ≤ 4 then (f + 1) % 8 else (f + 7) % 8
theorem dst_lt : ∀ f, f < 8 → ∀ d, d < 8 → dst f d < 5 := by decide +kernel
theorem stp_lt : ∀ f, f < 8 → ∀ d, d < 8 → stp f d < 8 := by decide +kernel
theorem upw_lt (f d : Nat) : upw f d < 8 := Nat.mod_lt _ (by decide)
theorem fmd : ∀ f, f < 8 → ∀ d, d < 8 → (0 ≤ ((nI d - nI f) ^^^ (8 : Int32)) ∧ (nI d - nI f) - (nI d - nI f) / 8 * 8 = nI (upw f d)) ∨ (¬ 0 ≤ ((nI d - nI f) ^^^ (8 : Int32)) ∧ (nI d - nI f) - (nI d - nI f) / 8 * 8 = 0 ∧ nI (upw f d) = 0) ∨ (¬ 0 ≤ ((nI d - nI f) ^^^ (8 : Int32)) ∧ ¬ (nI d - nI f) - (nI d - nI f) / 8 * 8 = 0 ∧ (nI d - nI f) - (nI d - nI f) / 8 * 8 + 8 = nI (upw f d)) := by decide +kernel
theorem fmu : ∀ f, f < 8 → 0 ≤ ((nI f + 1) ^^^ (8 : Int32)) ∧ (nI f + 1) - (nI f + 1) / 8 * 8 = nI ((f + 1) % 8) := by decide +kernel
theorem fmn : ∀ f, f < 8 → (0 ≤ ((nI f - 1) ^^^ (8 : Int32)) ∧ (nI f - 1) - (nI f - 1) / 8 * 8 = nI ((f + 7) % 8)) ∨ (¬ 0 ≤ ((nI f - 1) ^^^ (8 : Int32)) ∧ ¬ (nI f - 1) - (nI f - 1) / 8 * 8 = 0 ∧ (nI f - 1) - (nI f - 1) / 8 * 8 + 8 = nI ((f + 7) % 8)) := by decide +kernel
theorem x8 : ¬ ((8 : Int32) = 0) := by decide
theorem c_up {f d : Nat} (hf : f < 8) (hd : d < 8) {K : Int32 → Mem → Prop} (hK : K (nI (upw f d)) u) : w_X5_stepsUp G (nI f) (nI d) u K := by
  refine ⟨x8, fun z => ?_, fun z => ⟨fun z2 => ?_, fun z2 => ?_⟩⟩
  · rcases fmd f hf d hd with y | y | y
    · show K _ u; rw [y.2]; exact hK
    · exact absurd z y.1
    · exact absurd z y.1
  · rcases fmd f hf d hd with y | y | y
    · exact absurd y.1 z
    · show K _ u; rw [y.2.1, ← y.2.2]; exact hK
    · exact absurd z2 y.2.1
  · rcases fmd f hf d hd with y | y | y
    · exact absurd y.1 z
    · exact absurd y.2.1 z2
    · show K _ u; rw [y.2.2]; exact hK
theorem dst1 : ∀ p, p < 8 → (if ((8 : Int32) - nI p) < nI p then (8 : Int32) - nI p else nI p) = nI (if p ≤ 4 then p else 8 - p) := by decide +kernel
theorem c_dist {f d : Nat} (hf : f < 8) (hd : d < 8) {K : Int32 → Mem → Prop} (hK : K (nI (dst f d)) u) : w_X5_distance G (nI f) (nI d) u K := by
  refine c_up hf hd ?_
  show K _ u
  rw [dst1 _ (upw_lt f d)]
  exact hK
theorem cmp4 : ∀ p, p < 8 → (((8 : Int32) - nI p < nI p) ↔ ¬ p ≤ 4) ∧ ((nI p = 0) ↔ p = 0) ∧ ((nI p ≤ (4 : Int32)) ↔ p ≤ 4) := by decide +kernel
theorem c_step {f d : Nat} (hf : f < 8) (hd : d < 8) {K : Int32 → Mem → Prop} (hK : K (nI (stp f d)) u) : w_X5_oneStepOn G (nI f) (nI d) u K := by
  refine c_up hf hd ?_
  obtain ⟨k1, k2, k3⟩ := cmp4 _ (upw_lt f d)
  unfold stp at hK
  refine ⟨fun z => ?_, fun z => ⟨fun z2 => ?_, fun z2 => ?_⟩⟩
  · rw [if_pos (k2.mp z)] at hK; exact hK
  · rw [if_neg (fun e => z (k2.mpr e)), if_neg (k1.mp z2)] at hK
    refine ⟨x8, fun y => ?_, fun y => ⟨fun y2 => ?_, fun y2 => ?_⟩⟩
    · rcases fmn f hf with w | w
      · show K _ u; rw [w.2]; exact hK
      · exact absurd y w.1
    · rcases fmn f hf with w | w
      · exact absurd w.1 y
      · exact absurd y2 w.2.1
    · rcases fmn f hf with w | w
      · exact absurd w.1 y
      · show K _ u; rw [w.2.2]; exact hK
  · rw [if_neg (fun e => z (k2.mpr e)), if_pos (Decidable.byContradiction fun e => z2 (k1.mpr e))] at hK
    refine ⟨x8, fun y => ?_, fun y => absurd (fmu f hf).1 y⟩
    show K _ u; rw [(fmu f hf).2]; exact hK
theorem mfd : ∀ f, f < 8 → ∀ d, d < 8 → ((nI d - nI f) + 8) - ((nI d - nI f) + 8) / 8 * 8 = nI (upw f d) := by decide +kernel
theorem mfu : ∀ f, f < 8 → (nI f + 1) - (nI f + 1) / 8 * 8 = nI ((f + 1) % 8) ∧ ((nI f + 8) - 1) - ((nI f + 8) - 1) / 8 * 8 = nI ((f + 7) % 8) := by decide +kernel
theorem m_len {f d : Nat} (hf : f < 8) (hd : d < 8) {K : Int32 → Mem → Prop} (hK : K (nI (dst f d)) u) : w_X6_length G (nI f) (nI d) u K := by
  obtain ⟨k1, k2, k3⟩ := cmp4 _ (upw_lt f d)
  have e8 : (8 : Int32) = nI 8 := rfl
  unfold dst at hK
  have hu := upw_lt f d
  refine ⟨x8, fun z => ?_, fun z => ?_⟩
  · rw [mfd f hf d hd] at z ⊢; rw [if_pos (k3.mp z)] at hK; exact hK
  · rw [mfd f hf d hd] at z ⊢; rw [if_neg (fun e => z (k3.mpr e))] at hK; rw [e8, pk_sub (by omega)]; exact hK
theorem m_next {f d : Nat} (hf : f < 8) (hd : d < 8) {K : Int32 → Mem → Prop} (hK : K (nI (stp f d)) u) : w_X6_next G (nI f) (nI d) u K := by
  obtain ⟨k1, k2, k3⟩ := cmp4 _ (upw_lt f d)
  unfold stp at hK
  refine ⟨x8, fun z => ?_, fun z => ⟨fun z2 => ⟨x8, ?_⟩, fun z2 => ⟨x8, ?_⟩⟩⟩
  · rw [mfd f hf d hd] at z; rw [if_pos (k2.mp z)] at hK; exact hK
  · rw [mfd f hf d hd] at z z2; rw [if_neg (fun e => z (k2.mpr e)), if_pos (k3.mp z2)] at hK; rw [(mfu f hf).1]; exact hK
  · rw [mfd f hf d hd] at z z2; rw [if_neg (fun e => z (k2.mpr e)), if_neg (fun e => z2 (k3.mpr e))] at hK; rw [(mfu f hf).2]; exact hK
def med (a b c : Nat) : Nat := a + b + c - min (min a b) c - max (max a b) c
theorem mnI {a b : Nat} (ha : a < 2 ^ 31) (hb : b < 2 ^ 31) : (if nI a < nI b then nI a else nI b) = nI (min a b) := by
  by_cases z : a < b
  · rw [if_pos ((nI_ltI ha hb).mpr z), Nat.min_eq_left (by omega)]
  · rw [if_neg (fun e => z ((nI_ltI ha hb).mp e)), Nat.min_eq_right (by omega)]
theorem mxI {a b : Nat} (ha : a < 2 ^ 31) (hb : b < 2 ^ 31) : (if nI a < nI b then nI b else nI a) = nI (max a b) := by
  by_cases z : a < b
  · rw [if_pos ((nI_ltI ha hb).mpr z), Nat.max_eq_right (by omega)]
  · rw [if_neg (fun e => z ((nI_ltI ha hb).mp e)), Nat.max_eq_left (by omega)]
theorem med_val {a b c : Nat} (ha : 1 ≤ a ∧ a ≤ 30) (hb : 1 ≤ b ∧ b ≤ 30) (hc : 1 ≤ c ∧ c ≤ 30) : 0 + nI a + nI b + nI c - nI (min c (min b (min a 30))) - nI (max (max (max 1 a) b) c) = nI (med a b c) := by
  have e0 : (0 : Int32) = nI 0 := rfl
  rw [e0, nI_add, nI_add, nI_add, pk_sub (by omega), pk_sub (by omega)]
  congr 1
  unfold med
  omega
theorem c_days (h : S2 B G s t ka s2 u) {i a b c : Nat} (hi : i < 8) (ea : s 6 (3 * i) = nI a) (eb : s 6 (3 * i + 1) = nI b) (ec : s 6 (3 * i + 2) = nI c) (ha : 1 ≤ a ∧ a ≤ 30) (hb : 1 ≤ b ∧ b ≤ 30) (hc : 1 ≤ c ∧ c ≤ 30) {K : Int32 → Mem → Prop} (hK : K (nI (med a b c)) u) : w_X3_daysKept G (B 1 i) u K := by
  obtain ⟨f1, f2, f3, f4, f5, f6, f7, f8, f9, f10, f11⟩ := fs h hi
  rw [ea] at f9; rw [eb] at f10; rw [ec] at f11
  refine ⟨f2, fun r hr => ⟨B 2 i, hr.trans f6, f7, 4, ?_⟩⟩
  have v0 : vp_in (0 : Int32) 3 := vp_in_nI (n := 0) (by decide) (by decide)
  have v1 : vp_in (1 : Int32) 3 := vp_in_nI (n := 1) (by decide) (by decide)
  have v2 : vp_in (2 : Int32) 3 := vp_in_nI (n := 2) (by decide) (by decide)
  have e30 : (30 : Int32) = nI 30 := rfl
  have e1 : (1 : Int32) = nI 1 := rfl
  have g0 : ¬ (nI 3 ≤ (0 : Int32)) := by decide
  have g1 : ¬ (nI 3 ≤ (1 : Int32)) := by decide
  have g2 : ¬ (nI 3 ≤ (2 : Int32)) := by decide
  have g3 : nI 3 ≤ (3 : Int32) := by decide
  have t0 : (0 : Int32).toNatClampNeg = 0 := rfl
  have t1 : (1 : Int32).toNatClampNeg = 1 := rfl
  have t2 : (2 : Int32).toNatClampNeg = 2 := rfl
  have p1 : (0 : Int32) + 1 = 1 := rfl
  have p2 : (1 : Int32) + 1 = 2 := rfl
  have p3 : (2 : Int32) + 1 = 3 := rfl
  rw [wS_X3_daysKept_21]; refine ⟨fun z => absurd (f8 ▸ z) g0, fun _ => ⟨f7, by rw [f8]; exact v0, ?_⟩⟩
  rw [p1, wS_X3_daysKept_21]; refine ⟨fun z => absurd (f8 ▸ z) g1, fun _ => ⟨f7, by rw [f8]; exact v1, ?_⟩⟩
  rw [p2, wS_X3_daysKept_21]; refine ⟨fun z => absurd (f8 ▸ z) g2, fun _ => ⟨f7, by rw [f8]; exact v2, ?_⟩⟩
  rw [p3, wS_X3_daysKept_21]; refine ⟨fun _ => ?_, fun z => absurd (by rw [f8]; exact g3) z⟩
  rw [t0, t1, t2, f9, f10, f11, e30]
  rw [mnI (by omega) (by omega), mnI (by omega) (by omega), mnI (by omega) (by omega)]
  rw [show (if (1 : Int32) < nI a then nI a else 1) = nI (max 1 a) from mxI (a := 1) (b := a) (by omega) (by omega), mxI (by omega) (by omega), mxI (by omega) (by omega)]
  rw [med_val ha hb hc]
  exact hK
theorem fr (h : S2 B G s t ka s2 u) {k : Nat} (hk : ak k) : mR u (224 + k) (B 0 1) = some (B 4 k) ∧ OB u (B 4 k) (kdm k) ∧ mN u (B 4 k) = lnm k := by
  obtain ⟨m1, m2, m3, m4, m5, m6⟩ := h.2.2.2.2.2.2.2.2.1
  exact ⟨(m6 k hk).1, (m6 k hk).2.1, (m6 k hk).2.2.1⟩
theorem m_mid (h : S2 B G s t ka s2 u) {i a b c : Nat} (hi : i < 8) (ea : s2 6 (3 * i) = nI a) (eb : s2 6 (3 * i + 1) = nI b) (ec : s2 6 (3 * i + 2) = nI c) (ha : 1 ≤ a ∧ a ≤ 30) (hb : 1 ≤ b ∧ b ≤ 30) (hc : 1 ≤ c ∧ c ≤ 30) {K : Int32 → Mem → Prop} (hK : K (nI (med a b c)) u) : w_X6_middle G (B 0 1) (nI i) u K := by
  have k0 : (3 : Int32) * nI i = nI (3 * i) := pk_mul 3 i
  have k1 : (3 : Int32) * nI i + 1 = nI (3 * i + 1) := by rw [k0]; exact nI_1 _
  have k2 : (3 : Int32) * nI i + 2 = nI (3 * i + 2) := by rw [k0]; exact nI_add _ 2
  have c0 := nIc (i := 3 * i) (N := 24) (by omega) (by decide)
  have c1 := nIc (i := 3 * i + 1) (N := 24) (by omega) (by decide)
  have c2 := nIc (i := 3 * i + 2) (N := 24) (by omega) (by decide)
  have w0 := vp_in_nI (n := 3 * i) (N := 24) (by omega) (by decide)
  have w1 := vp_in_nI (n := 3 * i + 1) (N := 24) (by omega) (by decide)
  have w2 := vp_in_nI (n := 3 * i + 2) (N := 24) (by omega) (by decide)
  have r0 := fa_v h (i := 3 * i) (by omega)
  have r1 := fa_v h (i := 3 * i + 1) (by omega)
  have r2 := fa_v h (i := 3 * i + 2) (by omega)
  rw [ea] at r0; rw [eb] at r1; rw [ec] at r2
  have hr := (fr h (k := 6) (by unfold ak; omega))
  have h7 := (fm h).1
  refine ⟨h7, fun y1 e1 => ⟨B 4 6, e1.trans hr.1, hr.2.1, by rw [k0, hr.2.2]; exact w0, h7, fun y3 e3 => ⟨B 4 6, e3.trans hr.1, hr.2.1, by rw [k1, hr.2.2]; exact w1, h7, fun y5 e5 => ⟨B 4 6, e5.trans hr.1, hr.2.1, by rw [k2, hr.2.2]; exact w2, ?_⟩⟩⟩⟩
  rw [k1, k2, k0, c0, c1, c2, r0, r1, r2]
  have E : ∀ x, (x = med a b c) → K (nI x) u := fun x e => e ▸ hK
  simp only [w_X6_middle_42, w_X6_middle_54]
  simp only [nI_leI (show a < 2 ^ 31 by omega) (show b < 2 ^ 31 by omega), nI_leI (show b < 2 ^ 31 by omega) (show a < 2 ^ 31 by omega), nI_leI (show a < 2 ^ 31 by omega) (show c < 2 ^ 31 by omega), nI_leI (show c < 2 ^ 31 by omega) (show a < 2 ^ 31 by omega), nI_leI (show b < 2 ^ 31 by omega) (show c < 2 ^ 31 by omega), nI_leI (show c < 2 ^ 31 by omega) (show b < 2 ^ 31 by omega), nI_leI (show a < 2 ^ 31 by omega) (show a < 2 ^ 31 by omega), nI_leI (show b < 2 ^ 31 by omega) (show b < 2 ^ 31 by omega)]
  repeat' (first | exact E _ (by unfold med; omega) | (refine ⟨fun z => ?_, fun z => ?_⟩))
end S2P
