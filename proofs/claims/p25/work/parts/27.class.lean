section S2P
variable {B : Nat → Nat → Nat} {G : Ctx} {s s2 : Nat → Nat → Int32} {t : Nat → Nat → Nat} {ka : List Nat} {u : Mem}
theorem in8 {x : Int32} {n : Nat} (hn : n < 2 ^ 31) (h1 : ¬ (x < 0)) (h2 : ¬ (nI n ≤ x)) : ∃ j, j < n ∧ x = nI j := by
  rcases pk_ix x hn with z | z | z
  · exact absurd z h1
  · exact absurd z h2
  · exact z
theorem og8 {x : Int32} (h : nI 8 ≤ x) : ¬ (x < 0) ∧ nI 8 ≤ x ∧ ¬ (x < nI 8) ∧ (7 : Int32) < x ∧ (8 : Int32) ≤ x := by
  have z := og (by decide) (by decide) h
  exact ⟨z.1, z.2.1, z.2.2.1, z.2.2.2, h⟩
theorem og4 {x : Int32} (h : nI 4 ≤ x) : ¬ (x < 0) ∧ nI 4 ≤ x ∧ ¬ (x < nI 4) ∧ (3 : Int32) < x ∧ (4 : Int32) ≤ x := by
  have z := og (by decide) (by decide) h
  exact ⟨z.1, z.2.1, z.2.2.1, z.2.2.2, h⟩
theorem og3 {x : Int32} (h : nI 3 ≤ x) : ¬ (x < 0) ∧ nI 3 ≤ x ∧ ¬ (x < nI 3) ∧ (2 : Int32) < x ∧ (3 : Int32) ≤ x ∧ ¬ (x < 3) := by
  have z := og (by decide) (by decide) h
  exact ⟨z.1, z.2.1, z.2.2.1, z.2.2.2, h, z.2.2.1⟩
theorem pay1 {p c : Nat} (hp : p ≤ 100000) (hc : c ≤ 10000) (h : p + c ≤ 100000) : nI p ≤ (100000 : Int32) - nI c ∧ nI p + nI c = nI (p + c) ∧ nI (p + c) ≤ (100000 : Int32) ∧ ¬ ((100000 : Int32) - nI c < nI p) ∧ ¬ ((100000 : Int32) < nI (p + c)) := by
  have e : (100000 : Int32) = nI 100000 := rfl
  have h1 : nI p ≤ (100000 : Int32) - nI c := by rw [e, pk_sub (by omega), nI_leI (by omega) (by omega)]; omega
  have h2 : nI (p + c) ≤ (100000 : Int32) := by rw [e, nI_leI (by omega) (by omega)]; omega
  exact ⟨h1, nI_add _ _, h2, Int32.not_lt.mpr h1, Int32.not_lt.mpr h2⟩
theorem ogw {x : Int32} {n : Nat} (hn : n ≤ 60) (h : nI n ≤ x) : ¬ (x < 0) ∧ nI n ≤ x ∧ ¬ (x < nI n) ∧ nI n - 1 < x ∧ ¬ (x ≤ nI n - 1) := by
  have e1 : (nI n).toInt = n := nI_toInt (by omega)
  have e2 : (nI n - 1).toInt = (n : Int) - 1 := pk_sub_toInt (a := n) (b := 1) (by omega) (by omega)
  rw [Int32.le_iff_toInt_le] at h
  refine ⟨?_, ?_, ?_, ?_, ?_⟩
  · rw [Int32.lt_iff_toInt_lt, Int32.toInt_zero]; omega
  · rw [Int32.le_iff_toInt_le]; omega
  · rw [Int32.lt_iff_toInt_lt]; omega
  · rw [Int32.lt_iff_toInt_lt, e2]; omega
  · rw [Int32.le_iff_toInt_le, e2]; omega
theorem rgw {i n : Nat} (hi : i < n) (hn : n ≤ 60) : ¬ (nI i < 0) ∧ nI i < nI n ∧ ¬ (nI n ≤ nI i) ∧ ¬ (nI n - 1 < nI i) ∧ (nI i).toNatClampNeg = i ∧ vp_in (nI i) 60 ∧ nI i ≤ nI n - 1 := by
  have e2 : (nI n - 1).toInt = (n : Int) - 1 := pk_sub_toInt (a := n) (b := 1) (by omega) (by omega)
  refine ⟨nI_pos (by omega), ?_, ?_, ?_, nI_clamp (by omega), vp_in_nI (by omega) (by decide), ?_⟩
  · rw [nI_ltI (by omega) (by omega)]; omega
  · rw [nI_leI (by omega) (by omega)]; omega
  · rw [Int32.lt_iff_toInt_lt, e2, nI_toInt (by omega)]; omega
  · rw [Int32.le_iff_toInt_le, e2, nI_toInt (by omega)]; omega
def upw (f d : Nat) : Nat := (d + 8 - f) % 8
def dst (f d : Nat) : Nat := if upw f d ≤ 4 then upw f d else 8 - upw f d
def stp (f d : Nat) : Nat := if upw f d = 0 then f else if upw f d ≤ 4 then (f + 1) % 8 else (f + 7) % 8
theorem dst_lt : ∀ f, f < 8 → ∀ d, d < 8 → dst f d < 5 := by decide +kernel
theorem stp_lt : ∀ f, f < 8 → ∀ d, d < 8 → stp f d < 8 := by decide +kernel
theorem upw_lt (f d : Nat) : upw f d < 8 := Nat.mod_lt _ (by decide)
theorem fmd : ∀ f, f < 8 → ∀ d, d < 8 → (0 ≤ ((nI d - nI f) ^^^ (8 : Int32)) ∧ (nI d - nI f) - (nI d - nI f) / 8 * 8 = nI (upw f d)) ∨ (¬ 0 ≤ ((nI d - nI f) ^^^ (8 : Int32)) ∧ (nI d - nI f) - (nI d - nI f) / 8 * 8 = 0 ∧ nI (upw f d) = 0) ∨ (¬ 0 ≤ ((nI d - nI f) ^^^ (8 : Int32)) ∧ ¬ (nI d - nI f) - (nI d - nI f) / 8 * 8 = 0 ∧ (nI d - nI f) - (nI d - nI f) / 8 * 8 + 8 = nI (upw f d)) := by decide +kernel
theorem fmu : ∀ f, f < 8 → 0 ≤ ((nI f + 1) ^^^ (8 : Int32)) ∧ (nI f + 1) - (nI f + 1) / 8 * 8 = nI ((f + 1) % 8) := by decide +kernel
theorem fmn : ∀ f, f < 8 → (0 ≤ ((nI f - 1) ^^^ (8 : Int32)) ∧ (nI f - 1) - (nI f - 1) / 8 * 8 = nI ((f + 7) % 8)) ∨ (¬ 0 ≤ ((nI f - 1) ^^^ (8 : Int32)) ∧ ¬ (nI f - 1) - (nI f - 1) / 8 * 8 = 0 ∧ (nI f - 1) - (nI f - 1) / 8 * 8 + 8 = nI ((f + 7) % 8)) := by decide +kernel
theorem x8 : ¬ ((8 : Int32) = 0) := by decide
theorem c_up {f d : Nat} (hf : f < 8) (hd : d < 8) {K : Int32 → Mem → Prop} (hK : K (nI (upw f d)) u) : w_X5_stepsUp G (nI f) (nI d) u K := by
  refine ⟨x8, fun z => ?_, fun z => ⟨fun z2 => ?_, fun z2 => ?_⟩⟩
  · rcases fmd f hf d hd with y | y | y
    · show K _ u; rw [y.2]; exact hK
    · exact absurd z y.1
    · exact absurd z y.1
  · rcases fmd f hf d hd with y | y | y
    · exact absurd y.1 z
    · show K _ u; rw [y.2.1, ← y.2.2]; exact hK
    · exact absurd z2 y.2.1
  · rcases fmd f hf d hd with y | y | y
    · exact absurd y.1 z
    · exact absurd y.2.1 z2
    · show K _ u; rw [y.2.2]; exact hK
theorem dst1 : ∀ p, p < 8 → (if ((8 : Int32) - nI p) < nI p then (8 : Int32) - nI p else nI p) = nI (if p ≤ 4 then p else 8 - p) := by decide +kernel
theorem c_dist {f d : Nat} (hf : f < 8) (hd : d < 8) {K : Int32 → Mem → Prop} (hK : K (nI (dst f d)) u) : w_X5_distance G (nI f) (nI d) u K := by
  refine c_up hf hd ?_
  show K _ u
  rw [dst1 _ (upw_lt f d)]
  exact hK
theorem cmp4 : ∀ p, p < 8 → (((8 : Int32) - nI p < nI p) ↔ ¬ p ≤ 4) ∧ ((nI p = 0) ↔ p = 0) ∧ ((nI p ≤ (4 : Int32)) ↔ p ≤ 4) := by decide +kernel
theorem c_step {f d : Nat} (hf : f < 8) (hd : d < 8) {K : Int32 → Mem → Prop} (hK : K (nI (stp f d)) u) : w_X5_oneStepOn G (nI f) (nI d) u K := by
  refine c_up hf hd ?_
  obtain ⟨k1, k2, k3⟩ := cmp4 _ (upw_lt f d)
  unfold stp at hK
  refine ⟨fun z => ?_, fun z => ⟨fun z2 => ?_, fun z2 => ?_⟩⟩
  · rw [if_pos (k2.mp z)] at hK; exact hK
  · rw [if_neg (fun e => z (k2.mpr e)), if_neg (k1.mp z2)] at hK
    refine ⟨x8, fun y => ?_, fun y => ⟨fun y2 => ?_, fun y2 => ?_⟩⟩
    · rcases fmn f hf with w | w
      · show K _ u; rw [w.2]; exact hK
      · exact absurd y w.1
    · rcases fmn f hf with w | w
      · exact absurd w.1 y
      · exact absurd y2 w.2.1
    · rcases fmn f hf with w | w
      · exact absurd w.1 y
      · show K _ u; rw [w.2.2]; exact hK
  · rw [if_neg (fun e => z (k2.mpr e)), if_pos (Decidable.byContradiction fun e => z2 (k1.mpr e))] at hK
    refine ⟨x8, fun y => ?_, fun y => absurd (fmu f hf).1 y⟩
    show K _ u; rw [(fmu f hf).2]; exact hK
def med (a b c : Nat) : Nat := a + b + c - min (min a b) c - max (max a b) c
theorem mnI {a b : Nat} (ha : a < 2 ^ 31) (hb : b < 2 ^ 31) : (if nI a < nI b then nI a else nI b) = nI (min a b) := by
  by_cases z : a < b
  · rw [if_pos ((nI_ltI ha hb).mpr z), Nat.min_eq_left (by omega)]
  · rw [if_neg (fun e => z ((nI_ltI ha hb).mp e)), Nat.min_eq_right (by omega)]
theorem mxI {a b : Nat} (ha : a < 2 ^ 31) (hb : b < 2 ^ 31) : (if nI a < nI b then nI b else nI a) = nI (max a b) := by
  by_cases z : a < b
  · rw [if_pos ((nI_ltI ha hb).mpr z), Nat.max_eq_right (by omega)]
  · rw [if_neg (fun e => z ((nI_ltI ha hb).mp e)), Nat.max_eq_left (by omega)]
theorem med_val {a b c : Nat} (ha : 1 ≤ a ∧ a ≤ 30) (hb : 1 ≤ b ∧ b ≤ 30) (hc : 1 ≤ c ∧ c ≤ 30) : 0 + nI a + nI b + nI c - nI (min c (min b (min a 30))) - nI (max (max (max 1 a) b) c) = nI (med a b c) := by
  have e0 : (0 : Int32) = nI 0 := rfl
  rw [e0, nI_add, nI_add, nI_add, pk_sub (by omega), pk_sub (by omega)]
  congr 1
  unfold med
  omega
theorem c_days (h : S2 B G s t ka s2 u) {i a b c : Nat} (hi : i < 8) (ea : s 6 (3 * i) = nI a) (eb : s 6 (3 * i + 1) = nI b) (ec : s 6 (3 * i + 2) = nI c) (ha : 1 ≤ a ∧ a ≤ 30) (hb : 1 ≤ b ∧ b ≤ 30) (hc : 1 ≤ c ∧ c ≤ 30) {K : Int32 → Mem → Prop} (hK : K (nI (med a b c)) u) : w_X3_daysKept G (B 1 i) u K := by
  obtain ⟨f1, f2, f3, f4, f5, f6, f7, f8, f9, f10, f11⟩ := fs h hi
  rw [ea] at f9; rw [eb] at f10; rw [ec] at f11
  refine ⟨f2, fun r hr => ⟨B 2 i, hr.trans f6, f7, 4, ?_⟩⟩
  have v0 : vp_in (0 : Int32) 3 := vp_in_nI (n := 0) (by decide) (by decide)
  have v1 : vp_in (1 : Int32) 3 := vp_in_nI (n := 1) (by decide) (by decide)
  have v2 : vp_in (2 : Int32) 3 := vp_in_nI (n := 2) (by decide) (by decide)
  have e30 : (30 : Int32) = nI 30 := rfl
  have e1 : (1 : Int32) = nI 1 := rfl
  have g0 : ¬ (nI 3 ≤ (0 : Int32)) := by decide
  have g1 : ¬ (nI 3 ≤ (1 : Int32)) := by decide
  have g2 : ¬ (nI 3 ≤ (2 : Int32)) := by decide
  have g3 : nI 3 ≤ (3 : Int32) := by decide
  have t0 : (0 : Int32).toNatClampNeg = 0 := rfl
  have t1 : (1 : Int32).toNatClampNeg = 1 := rfl
  have t2 : (2 : Int32).toNatClampNeg = 2 := rfl
  have p1 : (0 : Int32) + 1 = 1 := rfl
  have p2 : (1 : Int32) + 1 = 2 := rfl
  have p3 : (2 : Int32) + 1 = 3 := rfl
  rw [wS_X3_daysKept_21]; refine ⟨fun z => absurd (f8 ▸ z) g0, fun _ => ⟨f7, by rw [f8]; exact v0, ?_⟩⟩
  rw [p1, wS_X3_daysKept_21]; refine ⟨fun z => absurd (f8 ▸ z) g1, fun _ => ⟨f7, by rw [f8]; exact v1, ?_⟩⟩
  rw [p2, wS_X3_daysKept_21]; refine ⟨fun z => absurd (f8 ▸ z) g2, fun _ => ⟨f7, by rw [f8]; exact v2, ?_⟩⟩
  rw [p3, wS_X3_daysKept_21]; refine ⟨fun _ => ?_, fun z => absurd (by rw [f8]; exact g3) z⟩
  rw [t0, t1, t2, f9, f10, f11, e30]
  rw [mnI (by omega) (by omega), mnI (by omega) (by omega), mnI (by omega) (by omega)]
  rw [show (if (1 : Int32) < nI a then nI a else 1) = nI (max 1 a) from mxI (a := 1) (b := a) (by omega) (by omega), mxI (by omega) (by omega), mxI (by omega) (by omega)]
  rw [med_val ha hb hc]
  exact hK
theorem S2_eq {s' s2' : Nat → Nat → Int32} (h : S2 B G s t ka s2 u) (e : s = s') (e2 : s2 = s2') : S2 B G s' t ka s2' u := by subst e; subst e2; exact h
theorem up2_comm (s : Nat → Nat → Int32) {k i k' i' : Nat} (v v' : Int32) (h : k ≠ k' ∨ i ≠ i') : up2 (up2 s k i v) k' i' v' = up2 (up2 s k' i' v') k i v := by
  funext a b
  simp only [up2_at]
  by_cases h1 : a = k' ∧ b = i' <;> by_cases h2 : a = k ∧ b = i
  · omega
  · rw [if_pos h1, if_neg h2, if_pos h1]
  · rw [if_neg h1, if_pos h2, if_pos h2]
  · rw [if_neg h1, if_neg h2, if_neg h2, if_neg h1]
theorem c_walk' (h : S2 B G s t ka s2 u) (hn : t 3 0 ≤ 60) {i : Nat} (hi : i < t 3 0) {K : Option Nat → Mem → Prop} (hK : K (some (t 0 i)) u) : w_X5_findWalk G (B 0 0) (nI i) u K := by
  simp [w_X5_findWalk, fd h, w_Jx4a65c_size_8abf5, w_get0 h hi, fw h hi, rgw hi hn, hK]
theorem c_str (h : S2 B G s t ka s2 u) {i : Nat} (hi : i < 8) {K : Option Nat → Mem → Prop} (hK : K (some (B 1 i)) u) : w_X5_findStreet G (B 0 0) (nI i) u K := by
  simp [w_X5_findStreet, fd h, fs h hi, rg8 hi, hK]
theorem cp1 : ∀ r, r < 101 → (if nI r + 5 < (100 : Int32) then nI r + 5 else (100 : Int32)) = nI (min (r + 5) 100) ∧ ((0 ≤ nI r + 5 ∧ nI r + 5 ≤ (100 : Int32) ∧ nI r + 5 = nI (min (r + 5) 100)) ∨ (0 ≤ nI r + 5 ∧ ¬ (nI r + 5 ≤ (100 : Int32)) ∧ 100 = nI (min (r + 5) 100)) ∨ (¬ (0 ≤ nI r + 5) ∧ 0 = nI (min (r + 5) 100))) := by decide +kernel
theorem cp2 : ∀ r, r < 101 → (if (0 : Int32) < nI r - 10 then nI r - 10 else (0 : Int32)) = nI (r - 10) ∧ ((0 ≤ nI r + (-10) ∧ nI r + (-10) ≤ (100 : Int32) ∧ nI r + (-10) = nI (r - 10)) ∨ (0 ≤ nI r + (-10) ∧ ¬ (nI r + (-10) ≤ (100 : Int32)) ∧ 100 = nI (r - 10)) ∨ (¬ (0 ≤ nI r + (-10)) ∧ 0 = nI (r - 10))) := by decide +kernel
theorem I_16 (h : Iv s t ka) (i : Nat) (v : Int32) (hi : i < t 3 0) : Iv (up2 s 16 i v) t ka := by
  obtain ⟨i0, i1, i2, i3, i4, i5, i6, i7, i8, i9, i10⟩ := h
  refine ⟨i0, i1, i2, i3, i4, i5, i6, i7, fun w hw => ?_, i9, i10⟩
  obtain ⟨y1, y2, y3⟩ := i8 w hw
  exact ⟨y1, y2, by rw [up2_at, if_neg (by omega)]; exact y3⟩
theorem I_15 (h : Iv s t ka) (i : Nat) (v : Int32) (hi : i < t 3 0) : Iv (up2 s 15 i v) t ka := by
  obtain ⟨i0, i1, i2, i3, i4, i5, i6, i7, i8, i9, i10⟩ := h
  refine ⟨i0, i1, i2, i3, i4, i5, i6, i7, fun w hw => ?_, i9, i10⟩
  obtain ⟨y1, y2, y3⟩ := i8 w hw
  exact ⟨y1, by rw [up2_at, if_neg (by omega)]; exact y2, y3⟩
theorem c_compl {mc ms : Nat} (h : S2 B G s t ka s2 u) (hn : t 3 0 ≤ 60) {i e : Nat} {v v2 : Int32} (hi : i < t 3 0) (z3 : s 13 i = 3) (he : e < 4) (z : s 14 i = nI e) (z4 : s 16 i = 0) (hv : (v2 = 0 ∧ (if (0 : Int32) < s 8 e - 10 then s 8 e - 10 else 0) = v) ∨ (¬ v2 = 0 ∧ (if s 8 e + 5 < (100 : Int32) then s 8 e + 5 else 100) = v)) {K : Int32 → Mem → Prop} {X : String → Mem → Prop} (hK : K v (setI (setI u 166 (t 0 i) 1) 66 (B 3 e) v)) : w_X5_complain G (B 0 0) (nI i) v2 mc ms u K X := by
  have z1 : ¬ (nI e = -1) := fun k => absurd (k ▸ nI_pos (n := e) (by omega)) (by decide)
  refine ⟨(fd h).1, c_walk' h hn hi ?_⟩
  rcases hv with ⟨q1, q2⟩ | ⟨q1, q2⟩
  · simp [w_X5_complain_104, fw h hi, fe h he, z, z1, z3, z4, nIc he (by decide : 4 < 2 ^ 31), q1, gI_setI, gO_setI, q2, hK]
  · simp [w_X5_complain_104, fw h hi, fe h he, z, z1, z3, z4, nIc he (by decide : 4 < 2 ^ 31), q1, gI_setI, gO_setI, q2, hK]
theorem c_complX (h : S2 B G s t ka s2 u) (hn : t 3 0 ≤ 60) {i : Nat} {v2 : Int32} (hi : i < t 3 0) (hz : ¬ s 13 i = 3 ∨ ∃ e, e < 4 ∧ s 14 i = nI e ∧ ¬ s 16 i = 0) {K : Int32 → Mem → Prop} {X : String → Mem → Prop} (hX : X "java/lang/IllegalStateException" u) : w_X5_complain G (B 0 0) (nI i) v2 1 6 u K X := by
  refine ⟨(fd h).1, c_walk' h hn hi ?_⟩
  rcases hz with z3 | ⟨e, he, z, z4⟩
  · simp [w_X5_complain_39, fw h hi, z3, hX]
  · have z1 : ¬ (nI e = -1) := fun k => absurd (k ▸ nI_pos (n := e) (by omega)) (by decide)
    simp [w_X5_complain_39, fw h hi, z, z1, z4, hX]
theorem c_vote {mc ms : Nat} (h : S2 B G s t ka s2 u) {i j d a b c : Nat} (hi : i < 8) (hj : j < 3) (hd : 1 ≤ d ∧ d ≤ 30) (ea : up2 s 6 (3 * i + j) (nI d) 6 (3 * i) = nI a) (eb : up2 s 6 (3 * i + j) (nI d) 6 (3 * i + 1) = nI b) (ec : up2 s 6 (3 * i + j) (nI d) 6 (3 * i + 2) = nI c) (ha : 1 ≤ a ∧ a ≤ 30) (hb : 1 ≤ b ∧ b ≤ 30) (hc : 1 ≤ c ∧ c ≤ 30) {K : Int32 → Mem → Prop} {X : String → Mem → Prop} (hK : K (nI (med a b c)) (setA u (B 2 i) j (nI d))) : w_X5_vote G (B 0 0) (nI i) (nI j) (nI d) mc ms u K X := by
  have e1 : ¬ (nI d < (1 : Int32)) := nI_nlt (a := d) (b := 1) (by omega) (by omega)
  have e2 : nI d ≤ (30 : Int32) := nI_le (a := d) (b := 30) (by omega) (by omega)
  have e3 : ¬ (nI 3 ≤ nI j) := by rw [nI_leI (by omega) (by omega)]; omega
  refine ⟨(fd h).1, c_str h hi ?_⟩
  simp [w_X3_setVote, fs h hi, rg3 hj, e1, e2, e3]
  exact ⟨(fs (S_vote h hi hj (nI d)) hi).2.1, c_days (S_vote h hi hj (nI d)) hi ea eb ec ha hb hc hK⟩
end S2P
