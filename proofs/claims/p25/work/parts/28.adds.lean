section S2P
variable {B : Nat → Nat → Nat} {G : Ctx} {s s2 : Nat → Nat → Int32} {t : Nat → Nat → Nat} {ka : List Nat} {u : Mem}
theorem ncap_b {c : Nat} (h : c ≤ 300) : 10 ≤ ncap c ∧ ncap c ≤ 450 ∧ c < ncap c ∨ (0 < c ∧ c < 10) := by
  unfold ncap; split <;> omega
theorem lok {a arr cap n : Nat} {f : Nat → Nat} (hL : Ls G u a arr cap n f) (h0 : cap ≠ 0) : OB u arr 13 := by
  rcases hL.2.2.2.1 with ⟨w, _⟩ | ⟨_, w, _⟩
  · exact absurd w h0
  · exact w
theorem kin (h : S2 B G s t ka s2 u) {i : Nat} (hi : i < ka.length) : ka.getD i 0 < t 3 1 := by
  rw [List.getD_eq_getElem?_getD, List.getElem?_eq_getElem hi]
  exact h.2.2.2.2.2.2.2.2.2.2.1.2.2.2.2.2 _ (List.getElem_mem hi)
theorem a_list0 (h : S2 B G s t ka s2 u) {e mc ms : Nat} (he : OB u e 5 ∨ OB u e 3) (hn : t 3 0 ≤ 300) (hmc : 1 ≤ mc) (hms : 450 ≤ ms) {K : Int32 → Mem → Prop} (hK : ∀ t' u', S2 B G s t' ka s2 u' → (∀ k i, k ≠ 4 → k ≠ 5 → t' k i = t k i) → t 3 0 < t' 5 0 → mB u' (t' 4 0) (t 3 0) = some e → (∀ k b, OB u b k → OB u' b k) → (∀ g b, 32 ≤ g → b ∈ mL u → mI u' g b = mI u g b ∧ mR u' g b = mR u g b) → K 1 (setI u' 2 (B 0 5) (nI (t 3 0 + 1)))) : w_Jx4a65c_add_9ea2d G (B 0 5) e mc ms u K := by
  have hL := h.2.2.2.2.2.1
  by_cases hc : t 3 0 < t 5 0
  · refine l_add_in hL hc he (fun v => hK t _ (S_put0 (S_mod h _ _) hc _) (fun k i _ _ => rfl) hc ?_ (fun k b hb => hb) (fun g b hg hb => ⟨?_, rfl⟩))
    · rw [gB_setB, if_pos ⟨rfl, rfl⟩]
    · rw [gI_setB, gI_setI, if_neg (by omega)]
  · have hcap : t 3 0 = t 5 0 := by have := hL.2.2.2.2.1; omega
    have hb10 := hL.2.2.2.1
    have hN := ncap_b (c := t 5 0) (by omega)
    have hN : 10 ≤ ncap (t 5 0) ∧ ncap (t 5 0) ≤ 450 ∧ t 5 0 < ncap (t 5 0) := by
      rcases hN with z | z
      · exact z
      · rcases hb10 with ⟨w, _⟩ | ⟨w, _⟩ <;> omega
    have hne : ∀ k, k < 3 → t 5 k ≠ 0 → OB u (t 4 k) 13 := fun k hk h0 => by
      match k, hk with
      | 0, _ => exact lok h.2.2.2.2.2.1 h0
      | 1, _ => exact lok h.2.2.2.2.2.2.1 h0
      | 2, _ => exact lok h.2.2.2.2.2.2.2.1 h0
    refine l_add_new hL hcap (by omega) he ⟨5, by omega, fun i hi => (fw h hi).1⟩ hmc (by omega) (fun v q u2 hq hE hOq hNq hcp => ?_)
    have hA : ∀ k, k < 3 → t 5 k ≠ 0 → q ≠ t 4 k := fun k hk h0 => fun e2 => hq (by rw [e2]; exact (hne k hk h0).1)
    have hS := S_ext (S_mod h (B 0 5) v) hE
    have hG := S_grow0 hS hOq hNq hN.1 (by omega) (by omega) (fun i hi => ?_) (fun h0 => hA 1 (by omega) h0) (fun h0 => hA 2 (by omega) h0)
    · refine hK _ _ (S_put0 hG ?_ (some e)) ?_ ?_ ?_ (fun k b hb => ?_) (fun g b hg hb => ⟨?_, ?_⟩)
      · simp [tu_at]; omega
      · intro k i h4 h5; rw [tu_at, if_neg (by omega), tu_at, if_neg (by omega)]
      · simp [tu_at]; omega
      · simp [tu_at, gB_setB]
      · exact hE.ob (k := k) hb
      · rw [gI_setB, gI_setR, (hE b hb).2.2.2.1, gI_setI, if_neg (by omega)]
      · rw [gR_setB, gR_setR, if_neg (by omega), (hE b hb).2.2.2.2.1]; rfl
    · rw [hcp i hi, (hE _ (hne 0 (by omega) (by omega)).1).2.2.2.2.2.2]; rfl
theorem a_list1 (h : S2 B G s t ka s2 u) {e mc ms : Nat} (he : OB u e 5 ∨ OB u e 3) (hn : t 3 1 ≤ 300) (hmc : 1 ≤ mc) (hms : 450 ≤ ms) {K : Int32 → Mem → Prop} (hK : ∀ t' u', S2 B G s t' ka s2 u' → (∀ k i, k ≠ 4 → k ≠ 5 → t' k i = t k i) → t 3 1 < t' 5 1 → mB u' (t' 4 1) (t 3 1) = some e → (∀ k b, OB u b k → OB u' b k) → (∀ g b, 32 ≤ g → b ∈ mL u → mI u' g b = mI u g b ∧ mR u' g b = mR u g b) → K 1 (setI u' 2 (B 0 7) (nI (t 3 1 + 1)))) : w_Jx4a65c_add_9ea2d G (B 0 7) e mc ms u K := by
  have hL := h.2.2.2.2.2.2.1
  by_cases hc : t 3 1 < t 5 1
  · refine l_add_in hL hc he (fun v => hK t _ (S_put1 (S_mod h _ _) hc _) (fun k i _ _ => rfl) hc ?_ (fun k b hb => hb) (fun g b hg hb => ⟨?_, rfl⟩))
    · rw [gB_setB, if_pos ⟨rfl, rfl⟩]
    · rw [gI_setB, gI_setI, if_neg (by omega)]
  · have hcap : t 3 1 = t 5 1 := by have := hL.2.2.2.2.1; omega
    have hb10 := hL.2.2.2.1
    have hN := ncap_b (c := t 5 1) (by omega)
    have hN : 10 ≤ ncap (t 5 1) ∧ ncap (t 5 1) ≤ 450 ∧ t 5 1 < ncap (t 5 1) := by
      rcases hN with z | z
      · exact z
      · rcases hb10 with ⟨w, _⟩ | ⟨w, _⟩ <;> omega
    have hne : ∀ k, k < 3 → t 5 k ≠ 0 → OB u (t 4 k) 13 := fun k hk h0 => by
      match k, hk with
      | 0, _ => exact lok h.2.2.2.2.2.1 h0
      | 1, _ => exact lok h.2.2.2.2.2.2.1 h0
      | 2, _ => exact lok h.2.2.2.2.2.2.2.1 h0
    refine l_add_new hL hcap (by omega) he ⟨3, by omega, fun i hi => (fp h hi).1⟩ hmc (by omega) (fun v q u2 hq hE hOq hNq hcp => ?_)
    have hA : ∀ k, k < 3 → t 5 k ≠ 0 → q ≠ t 4 k := fun k hk h0 => fun e2 => hq (by rw [e2]; exact (hne k hk h0).1)
    have hS := S_ext (S_mod h (B 0 7) v) hE
    have hG := S_grow1 hS hOq hNq hN.1 (by omega) (by omega) (fun i hi => ?_) (fun h0 => hA 0 (by omega) h0) (fun h0 => hA 2 (by omega) h0)
    · refine hK _ _ (S_put1 hG ?_ (some e)) ?_ ?_ ?_ (fun k b hb => ?_) (fun g b hg hb => ⟨?_, ?_⟩)
      · simp [tu_at]; omega
      · intro k i h4 h5; rw [tu_at, if_neg (by omega), tu_at, if_neg (by omega)]
      · simp [tu_at]; omega
      · simp [tu_at, gB_setB]
      · exact hE.ob (k := k) hb
      · rw [gI_setB, gI_setR, (hE b hb).2.2.2.1, gI_setI, if_neg (by omega)]
      · rw [gR_setB, gR_setR, if_neg (by omega), (hE b hb).2.2.2.2.1]; rfl
    · rw [hcp i hi, (hE _ (hne 1 (by omega) (by omega)).1).2.2.2.2.2.2]; rfl
theorem a_list2 (h : S2 B G s t ka s2 u) {e mc ms : Nat} (he : OB u e 5 ∨ OB u e 3) (hn : ka.length ≤ 300) (hmc : 1 ≤ mc) (hms : 450 ≤ ms) {K : Int32 → Mem → Prop} (hK : ∀ t' u', S2 B G s t' ka s2 u' → (∀ k i, k ≠ 4 → k ≠ 5 → t' k i = t k i) → ka.length < t' 5 2 → mB u' (t' 4 2) (ka.length) = some e → (∀ k b, OB u b k → OB u' b k) → (∀ g b, 32 ≤ g → b ∈ mL u → mI u' g b = mI u g b ∧ mR u' g b = mR u g b) → K 1 (setI u' 2 (B 0 8) (nI (ka.length + 1)))) : w_Jx4a65c_add_9ea2d G (B 0 8) e mc ms u K := by
  have hL := h.2.2.2.2.2.2.2.1
  by_cases hc : ka.length < t 5 2
  · refine l_add_in hL hc he (fun v => hK t _ (S_put2 (S_mod h _ _) hc _) (fun k i _ _ => rfl) hc ?_ (fun k b hb => hb) (fun g b hg hb => ⟨?_, rfl⟩))
    · rw [gB_setB, if_pos ⟨rfl, rfl⟩]
    · rw [gI_setB, gI_setI, if_neg (by omega)]
  · have hcap : ka.length = t 5 2 := by have := hL.2.2.2.2.1; omega
    have hb10 := hL.2.2.2.1
    have hN := ncap_b (c := t 5 2) (by omega)
    have hN : 10 ≤ ncap (t 5 2) ∧ ncap (t 5 2) ≤ 450 ∧ t 5 2 < ncap (t 5 2) := by
      rcases hN with z | z
      · exact z
      · rcases hb10 with ⟨w, _⟩ | ⟨w, _⟩ <;> omega
    have hne : ∀ k, k < 3 → t 5 k ≠ 0 → OB u (t 4 k) 13 := fun k hk h0 => by
      match k, hk with
      | 0, _ => exact lok h.2.2.2.2.2.1 h0
      | 1, _ => exact lok h.2.2.2.2.2.2.1 h0
      | 2, _ => exact lok h.2.2.2.2.2.2.2.1 h0
    refine l_add_new hL hcap (by omega) he ⟨3, by omega, fun i hi => (fp h (kin h hi)).1⟩ hmc (by omega) (fun v q u2 hq hE hOq hNq hcp => ?_)
    have hA : ∀ k, k < 3 → t 5 k ≠ 0 → q ≠ t 4 k := fun k hk h0 => fun e2 => hq (by rw [e2]; exact (hne k hk h0).1)
    have hS := S_ext (S_mod h (B 0 8) v) hE
    have hG := S_grow2 hS hOq hNq hN.1 (by omega) (by omega) (fun i hi => ?_) (fun h0 => hA 0 (by omega) h0) (fun h0 => hA 1 (by omega) h0)
    · refine hK _ _ (S_put2 hG ?_ (some e)) ?_ ?_ ?_ (fun k b hb => ?_) (fun g b hg hb => ⟨?_, ?_⟩)
      · simp [tu_at]; omega
      · intro k i h4 h5; rw [tu_at, if_neg (by omega), tu_at, if_neg (by omega)]
      · simp [tu_at]; omega
      · simp [tu_at, gB_setB]
      · exact hE.ob (k := k) hb
      · rw [gI_setB, gI_setR, (hE b hb).2.2.2.1, gI_setI, if_neg (by omega)]
      · rw [gR_setB, gR_setR, if_neg (by omega), (hE b hb).2.2.2.2.1]; rfl
    · rw [hcp i hi, (hE _ (hne 2 (by omega) (by omega)).1).2.2.2.2.2.2]; rfl
theorem gsn {u : Mem} {f g a b : Nat} {v : Int32} (h : g ≠ f) : mI (setI u f a v) g b = mI u g b := by rw [gI_setI, if_neg (fun e => h e.1)]
theorem gse {u : Mem} {f a : Nat} {v : Int32} : mI (setI u f a v) f a = v := by rw [gI_setI, if_pos ⟨rfl, rfl⟩]
def wmem (u : Mem) (q : Nat) (a b c : Int32) : Mem := setI (setI (setI (setI (setI (setR (setI (mNew u q 5 0) 163 q 0) 164 q none) 165 q 0) 166 q 0) 160 q a) 161 q b) 162 q c
theorem c_walk4 {q : Nat} {a b c : Int32} {K : Mem → Prop} (hK : K (wmem u q a b c)) : w_X4_init G q a b c (mNew u q 5 0) K := by
  simp [w_X4_init, gO_setI, gO_setR, gO_self]
  exact hK
theorem wmem_ext {q : Nat} {a b c : Int32} (hq : q ∉ mL u) : Ext u (wmem u q a b c) := (((((((Ext.rf.new hq).setI hq _ _).setR hq _ _).setI hq _ _).setI hq _ _).setI hq _ _).setI hq _ _).setI hq _ _
theorem wmem_at {q : Nat} {a b c : Int32} : OB (wmem u q a b c) q 5 ∧ mI (wmem u q a b c) 160 q = a ∧ mI (wmem u q a b c) 161 q = b ∧ mI (wmem u q a b c) 162 q = c ∧ mI (wmem u q a b c) 163 q = 0 ∧ mR (wmem u q a b c) 164 q = none ∧ mI (wmem u q a b c) 165 q = 0 ∧ mI (wmem u q a b c) 166 q = 0 := by
  unfold wmem
  refine ⟨?_, ?_, ?_, ?_, ?_, ?_, ?_, ?_⟩
  · exact (gO_self : OB (mNew u q 5 0) q 5)
  · rw [gsn (by decide), gsn (by decide), gse]
  · rw [gsn (by decide), gse]
  · rw [gse]
  · rw [gsn (by decide), gsn (by decide), gsn (by decide), gsn (by decide), gsn (by decide), gI_setR, gse]
  · rw [gR_setI, gR_setI, gR_setI, gR_setI, gR_setI, gR_setR, if_pos ⟨rfl, rfl⟩]
  · rw [gsn (by decide), gsn (by decide), gsn (by decide), gsn (by decide), gse]
  · rw [gsn (by decide), gsn (by decide), gsn (by decide), gse]
def s_ask (s : Nat → Nat → Int32) (n : Nat) (f d : Int32) : Nat → Nat → Int32 := up2 (up2 (up2 (up2 s 11 n f) 12 n d) 14 n (-1)) 10 0 (nI (n + 1))
theorem c_ask (h : S2 B G s t ka s2 u) (hI : Iv s t ka) {i j : Nat} (hi : i < 8) (hj : j < 8) (hne : i ≠ j) (hlt : t 3 0 < 60) {K : Int32 → Mem → Prop} {X : String → Mem → Prop} (hK : ∀ t' u', S2 B G (s_ask s (t 3 0) (nI i) (nI j)) t' ka s2 u' → t' 3 0 = t 3 0 + 1 → t' 3 1 = t 3 1 → K (nI (t 3 0)) u') : w_X5_ask G (B 0 0) (nI i) (nI j) 3 600 u K X := by
  have e1 : ¬ (nI i = nI j) := fun e => hne ((nI_eq (by omega) (by omega)).mp e)
  have e2 : nI (t 3 0) < (60 : Int32) := nI_lt (a := t 3 0) (b := 60) (by omega) (by omega)
  simp [w_X5_ask, w_X5_isStreet, rg8 hi, rg8 hj, e1, fd h, w_Jx4a65c_size_8abf5, e2, Int32.not_le.mpr e2]
  intro q hq
  have hS := S_ext h (wmem_ext (a := nI (t 3 0)) (b := nI i) (c := nI j) hq)
  refine c_walk4 ⟨1, by omega, 450, by omega, (fd hS).2.2.2.2.2.2.2.2.2.2.2.2.2.2.1, ?_⟩
  obtain ⟨k1, k2, k3, k4, k5, k6, k7, k8⟩ := wmem_at (u := u) (q := q) (a := nI (t 3 0)) (b := nI i) (c := nI j)
  have hqm := k1.1
  refine a_list0 hS (.inl k1) (by omega) (Nat.le_refl _) (Nat.le_refl _) (fun t' u' hS' ht hc' hb hO hM => ?_)
  have f3 : t' 3 0 = t 3 0 := ht 3 0 (by omega) (by omega)
  have f31 : t' 3 1 = t 3 1 := ht 3 1 (by omega) (by omega)
  obtain ⟨y3, y5, y6⟩ := hI.2.2.2.2.2.2.2.2.1 (t 3 0) (Nat.le_refl _)
  have hC := S_cwalk hS' (e := q) (f := nI i) (d := nI j) (by rw [f3]; exact hc') (by rw [f3]; exact hb) (hO _ _ k1) (by rw [(hM _ _ (by omega) hqm).1, k2, f3]) (by rw [(hM _ _ (by omega) hqm).1, k3]) (by rw [(hM _ _ (by omega) hqm).1, k4]) (by rw [(hM _ _ (by omega) hqm).1, k5]) (by rw [(hM _ _ (by omega) hqm).2, k6]) (by rw [(hM _ _ (by omega) hqm).1, k7]) (by rw [(hM _ _ (by omega) hqm).1, k8]) (fun w hw e => ?_) (by rw [f3]; exact y3) (by rw [f3]; exact y5) (by rw [f3]; exact y6)
  · rw [f3] at hC
    exact hK _ _ hC (by simp [tu_at]) (by simp [tu_at, f31])
  · rw [ht 0 w (by omega) (by omega)] at e
    rw [f3] at hw
    exact hq (e ▸ (fw h hw).1.1)
theorem I_ask (hI : Iv s t ka) {i j : Nat} (hi : i < 8) (hj : j < 8) (hlt : t 3 0 < 60) {t' : Nat → Nat → Nat} (e0 : t' 3 0 = t 3 0 + 1) (e1 : t' 3 1 = t 3 1) : Iv (s_ask s (t 3 0) (nI i) (nI j)) t' ka := by
  obtain ⟨⟨j0, j1, j2, j3, j4, j5⟩, i1, i2, i3, i4, i5, i6, i7, i8, i9, i10⟩ := hI
  unfold Iv
  rw [e0, e1]
  refine ⟨⟨by omega, j1, by simp [s_ask, up2_at], by simpa [s_ask, up2_at] using j3, by simpa [s_ask, up2_at] using j4, by simpa [s_ask, up2_at] using j5⟩, fun w hw => ?_, fun w hw => ?_, fun w hw => ?_, fun w hw => ?_, fun w hw => ?_, fun w hw => ?_, fun w hw => ?_, fun w hw => ?_, fun w hw => ?_, ?_⟩
  · simpa [s_ask, up2_at] using i1 w hw
  · simpa [s_ask, up2_at] using i2 w hw
  · simpa [s_ask, up2_at] using i3 w hw
  · simpa [s_ask, up2_at] using i4 w hw
  · simpa [s_ask, up2_at] using i5 w hw
  · by_cases e : w = t 3 0
    · exact ⟨i, j, hi, hj, by simp [s_ask, up2_at, e], by simp [s_ask, up2_at, e]⟩
    · simpa [s_ask, up2_at, e] using i6 w (by omega)
  · by_cases e : w = t 3 0
    · subst e
      refine .inl ⟨by simp [s_ask, up2_at], ?_⟩
      have := (i8 (t 3 0) (Nat.le_refl _)).1
      simpa [s_ask, up2_at] using this
    · simpa [s_ask, up2_at, e] using i7 w (by omega)
  · simpa [s_ask, up2_at] using i8 w (by omega)
  · simpa [s_ask, up2_at] using i9 w hw
  · simpa [s_ask, up2_at] using i10
theorem Pt_w {q mc ms : Nat} (h : Pt (q + 1) mc ms t) : 3 ≤ mc ∧ 600 ≤ ms ∧ ∀ t' : Nat → Nat → Nat, t' 3 1 = t 3 1 → Pt q (mc - 3) (ms - 600) t' := by
  unfold Pt at *
  refine ⟨by omega, by omega, fun t' e => ?_⟩
  rw [e]; omega
end S2P
