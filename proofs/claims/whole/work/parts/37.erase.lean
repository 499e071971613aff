section S2P
variable {B : Nat → Nat → Nat} {G : Ctx} {s s2 : Nat → Nat → Int32} {t : Nat → Nat → Nat} {ka : List Nat} {u : Mem}
theorem c_rm (h : S2 B G s t ka s2 u) {i : Nat} (hi : i < ka.length) (hn : ka.length ≤ 300) {K : Option Nat → Mem → Prop} (hK : ∀ r u', S2 B G s t (ka.eraseIdx i) s2 u' → K r u') : w_Jx4a65c_remove_915e3 G (B 0 8) (nI i) u K := by
  have hL := h.2.2.2.2.2.2.2.1
  have ho := hL.1
  have hn2 := hL.2.2.1
  have hle := hL.2.2.2.2.1
  have hA := lok hL (by omega)
  have hN : mN u (t 4 2) = t 5 2 := by
    rcases hL.2.2.2.1 with ⟨z, _⟩ | ⟨_, _, z⟩
    · omega
    · exact z
  have hc2 := hL.2.2.2.2.2.1
  have e1 : nI i < nI ka.length := by rw [nI_ltI (by omega) (by omega)]; omega
  have e2 : ¬ (nI i < 0) := nI_pos (by omega)
  have cl := nIc (i := i) (N := 2000) (by omega) (by decide)
  refine ⟨ho, ?_⟩
  rw [hn2]
  refine ⟨fun z => absurd z e2, fun _ => ⟨fun _ => ?_, fun z => absurd e1 z⟩⟩
  refine ⟨ho, fun r hr => ⟨t 4 2, hr.trans hL.2.1, hA, by rw [hN]; exact vp_in_nI (by omega) (by omega), fun r5 _ => ⟨ho, ho, ho, fun u1 h1 => ?_⟩⟩⟩
  have hS : S2 B G s t ka s2 u1 := by rw [h1]; exact S_mod h _ _
  have hB : ∀ a j, mB u1 a j = mB u a j := fun a j => by rw [h1]; rfl
  have hN1 : mN u1 (t 4 2) = t 5 2 := by rw [h1]; exact hN
  have hA1 : OB u1 (t 4 2) 13 := by rw [h1]; exact hA
  have hn3 : mI u1 2 (B 0 8) = nI ka.length := hS.2.2.2.2.2.2.2.1.2.2.1
  have ho1 : OB u1 (B 0 8) 0 := hS.2.2.2.2.2.2.2.1.1
  clear h1
  have hL1 := hS.2.2.2.2.2.2.2.1
  have el : mI u1 2 (B 0 8) - (1 : Int32) = nI (ka.length - 1) := by
    rw [hn3]; exact pk_sub (a := ka.length) (b := 1) (by omega)
  have h34 : ∀ v, (v = u1 ∨ ∃ c, v = setC u1 (t 4 2) c) → (∀ j, j < ka.length - 1 → mB v (t 4 2) j = if j < i then mB u1 (t 4 2) j else mB u1 (t 4 2) (j + 1)) → w_Jx4a65c_fastRemove_b59b0_34 G (B 0 8) (t 4 2) (nI i) (fun u6 => K r5 u6) (nI (ka.length - 1)) v := fun v hv hc => by
    have gO : ∀ a k, OB v a k = OB u1 a k := fun a k => by rcases hv with rfl | ⟨c, rfl⟩ <;> rfl
    have gN : ∀ a, mN v a = mN u1 a := fun a => by rcases hv with rfl | ⟨c, rfl⟩ <;> rfl
    refine ⟨by rw [gO]; exact ho1, fun u8 h8 => ⟨?_, ?_, fun u9 h9 => ?_⟩⟩
    · rw [h8, gO_setI, gO]; exact hA1
    · rw [h8, gN_setI, gN, hN1]; exact vp_in_nI (by omega) (by omega)
    · rw [h9, h8, nIc (i := ka.length - 1) (N := 2000) (by omega) (by decide)]
      exact hK _ _ (S_unkeep hS hi hv hc)
  refine ⟨ho1, ?_⟩
  rw [el]
  refine ⟨fun z => h34 u1 (.inl rfl) (fun j hj => ?_), fun z => ?_⟩
  · rw [nI_leI (by omega) (by omega)] at z
    rw [if_pos (by omega)]
  · rw [nI_leI (by omega) (by omega)] at z
    have k1 : nI i + (1 : Int32) = nI (i + 1) := nI_1 i
    have k2 : nI (ka.length - 1) - nI i = nI (ka.length - 1 - i) := pk_sub (by omega)
    have c1 := nIc (i := i + 1) (N := 2000) (by omega) (by decide)
    have c2 := nIc (i := ka.length - 1 - i) (N := 2000) (by omega) (by decide)
    rw [k1, k2, c1, c2, cl, hN1]
    refine ⟨hA1, hA1, nI_pos (by omega), e2, nI_pos (by omega), by omega, by omega, ⟨3, .inr rfl, fun j hj y hy => ?_⟩, fun u3 h3 => h34 u3 (.inr ⟨_, h3⟩) (fun j hj => ?_)⟩
    · have hj2 : i + 1 + j < ka.length := by omega
      rw [hL1.2.2.2.2.2.2 (i + 1 + j) hj2] at hy
      have := (fp hS (kin hS hj2)).1
      have e9 : t 1 (ka.getD (i + 1 + j) 0) = y := Option.some.inj hy
      rw [← e9]
      exact this
    · rw [h3, gB_setC, if_pos rfl]
      unfold va_cpy
      by_cases q : j < i
      · rw [if_neg (by omega), if_pos q]
      · rw [if_pos ⟨by omega, by omega⟩, if_neg q, show i + 1 + (j - i) = j + 1 by omega]
theorem S2kin {k2 : List Nat} (h : S2 B G s t k2 s2 u) {j : Nat} (hj : j ∈ k2) : j < t 3 1 := h.2.2.2.2.2.2.2.2.2.2.1.2.2.2.2.2 j hj
theorem c_erase_l2 {dd : Int32} {K : Int32 → Mem → Prop} : ∀ n pre, pre.length = n → ∀ (suf : List Nat) c u, S2 B G s t (pre ++ suf) s2 u → (pre ++ suf).length ≤ 300 → (∀ u', S2 B G s t (pre.filter (fun j => decide (dd < s 21 j)) ++ suf) s2 u' → K (nI (c + (pre.filter (fun j => decide (s 21 j ≤ dd))).length)) u') → w_X0_eraseDue_12 G (B 0 6) dd K (n + 1) (nI c) (nI n - 1) u := by
  intro n
  induction n with
  | zero =>
    intro pre hp suf c u h hl hK
    have : pre = [] := List.length_eq_zero_iff.mp hp
    subst this
    rw [wS_X0_eraseDue_12]
    refine ⟨fun _ => hK u h, fun z => absurd (by decide : nI 0 - 1 < 0) z⟩
  | succ n ih =>
    intro pre hp suf c u h hl hK
    have hne : pre ≠ [] := fun e => by rw [e] at hp; simp at hp
    have ep := (List.dropLast_concat_getLast hne).symm
    generalize pre.getLast hne = x at ep
    generalize pre.dropLast = p at ep
    subst ep
    have hpn : p.length = n := by simpa using hp
    have hlen : (p ++ [x] ++ suf).length = n + 1 + suf.length := by simp [hpn]; omega
    have hi : n < (p ++ [x] ++ suf).length := by omega
    have hget : (p ++ [x] ++ suf).getD n 0 = x := by
      rw [List.getD_eq_getElem?_getD, List.append_assoc, List.getElem?_append_right (by omega), hpn]
      simp
    have hx : x < t 3 1 := S2kin h (by simp)
    have er : (p ++ [x] ++ suf).eraseIdx n = p ++ suf := by
      rw [List.append_assoc, List.eraseIdx_append_of_length_le (by omega), hpn]
      simp
    obtain ⟨f1, f2, f3, f4, f5, f6, f7, f8, f9, f10, f11, f12, f13, f14, f15, f16, f17, f18, f19, f20, f21, f22⟩ := fd h
    have en : nI (n + 1) - 1 = nI n := nI_pred n
    rw [wS_X0_eraseDue_12, en]
    refine ⟨fun z => absurd z (nI_pos (by omega)), fun _ => ⟨f12, fun r hr => ⟨_, hr.trans f14, f17, ?_⟩⟩⟩
    rw [w_get2 h hi, hget]
    obtain ⟨g1, g2, g3, g4, g5⟩ := fp h hx
    refine ⟨_, rfl, g1, g1, ?_⟩
    rw [g5]
    refine ⟨fun z => ?_, fun z => ⟨f12, fun r hr => ⟨_, hr.trans f14, f17, c_rm h hi hl (fun r' u' h' => ?_)⟩⟩⟩
    · show w_X0_eraseDue_12 G (B 0 6) dd K (n + 1) (nI c) (nI n + (-1)) u
      rw [← Int32.sub_eq_add_neg]
      refine ih p hpn (x :: suf) c u (by simpa using h) (by simpa using hl) (fun u' hu => ?_)
      have hz : ¬ s 21 x ≤ dd := Int32.not_le.mpr z
      have := hK u' (by simpa [List.filter_append, z] using hu)
      simpa [List.filter_append, hz] using this
    · rw [er] at h'
      show w_X0_eraseDue_12 G (B 0 6) dd K (n + 1) (nI c + 1) (nI n + (-1)) u'
      rw [← Int32.sub_eq_add_neg, nI_1]
      refine ih p hpn suf (c + 1) u' h' (by simp at hl ⊢; omega) (fun u2 hu => ?_)
      have hz : s 21 x ≤ dd := Int32.not_lt.mp z
      have := hK u2 (by simpa [List.filter_append, z] using hu)
      rw [show c + 1 + (p.filter (fun j => decide (s 21 j ≤ dd))).length = c + ((p ++ [x]).filter (fun j => decide (s 21 j ≤ dd))).length by simp [List.filter_append, hz]; omega]
      exact this
theorem c_erase (h : S2 B G s t ka s2 u) (hn : ka.length ≤ 300) {dd : Int32} {K : Int32 → Mem → Prop} (hK : ∀ u', S2 B G s t (ka.filter (fun j => decide (dd < s 21 j))) s2 u' → K (nI (ka.filter (fun j => decide (s 21 j ≤ dd))).length) u') : w_X0_eraseDue G (B 0 6) dd u K := by
  obtain ⟨f1, f2, f3, f4, f5, f6, f7, f8, f9, f10, f11, f12, f13, f14, f15, f16, f17, f18, f19, f20, f21, f22⟩ := fd h
  refine ⟨f12, fun r hr => ⟨_, hr.trans f14, f17, f17, ?_⟩⟩
  rw [f20]
  refine ⟨ka.length + 1, ?_⟩
  refine c_erase_l2 ka.length ka rfl [] 0 u (by simpa using h) (by simpa using hn) (fun u' hu => ?_)
  have := hK u' (by simpa using hu)
  simpa using this
end S2P
