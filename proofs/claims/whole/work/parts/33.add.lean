section S2P
variable {B : Nat → Nat → Nat} {G : Ctx} {s s2 : Nat → Nat → Int32} {t : Nat → Nat → Nat} {ka : List Nat} {u : Mem}
theorem ncap_b {c : Nat} (h : c ≤ 300) : 10 ≤ ncap c ∧ ncap c ≤ 450 ∧ c < ncap c ∨ (0 < c ∧ c < 10) := by
  unfold ncap; split <;> omega
theorem lok {a arr cap n : Nat} {f : Nat → Nat} (hL : Ls G u a arr cap n f) (h0 : cap ≠ 0) : OB u arr 13 := by
  rcases hL.2.2.2.1 with ⟨w, _⟩ | ⟨_, w, _⟩
  · exact absurd w h0
  · exact w
theorem kin (h : S2 B G s t ka s2 u) {i : Nat} (hi : i < ka.length) : ka.getD i 0 < t 3 1 := by
  rw [List.getD_eq_getElem?_getD, List.getElem?_eq_getElem hi]
  exact h.2.2.2.2.2.2.2.2.2.2.1.2.2.2.2.2 _ (List.getElem_mem hi)
theorem a_list0 (h : S2 B G s t ka s2 u) {e mc ms : Nat} (he : OB u e 5 ∨ OB u e 3) (hn : t 3 0 ≤ 300) (hmc : 1 ≤ mc) (hms : 450 ≤ ms) {K : Int32 → Mem → Prop} (hK : ∀ t' u', S2 B G s t' ka s2 u' → (∀ k i, k ≠ 4 → k ≠ 5 → t' k i = t k i) → t 3 0 < t' 5 0 → mB u' (t' 4 0) (t 3 0) = some e → (∀ k b, OB u b k → OB u' b k) → (∀ g b, 32 ≤ g → b ∈ mL u → mI u' g b = mI u g b ∧ mR u' g b = mR u g b) → K 1 (setI u' 2 (B 0 5) (nI (t 3 0 + 1)))) : w_Jx4a65c_add_9ea2d G (B 0 5) e mc ms u K := by
  have hL := h.2.2.2.2.2.1
  by_cases hc : t 3 0 < t 5 0
  · refine l_add_in hL hc he (fun v => hK t _ (S_put0 (S_mod h _ _) hc _) (fun k i _ _ => rfl) hc ?_ (fun k b hb => hb) (fun g b hg hb => ⟨?_, rfl⟩))
    · rw [gB_setB, if_pos ⟨rfl, rfl⟩]
    · rw [gI_setB, gI_setI, if_neg (by omega)]
  · have hcap : t 3 0 = t 5 0 := by have := hL.2.2.2.2.1; omega
    have hb10 := hL.2.2.2.1
    have hN := ncap_b (c := t 5 0) (by omega)
    have hN : 10 ≤ ncap (t 5 0) ∧ ncap (t 5 0) ≤ 450 ∧ t 5 0 < ncap (t 5 0) := by
      rcases hN with z | z
      · exact z
      · rcases hb10 with ⟨w, _⟩ | ⟨w, _⟩ <;> omega
    have hne : ∀ k, k < 3 → t 5 k ≠ 0 → OB u (t 4 k) 13 := fun k hk h0 => by
      match k, hk with
      | 0, _ => exact lok h.2.2.2.2.2.1 h0
      | 1, _ => exact lok h.2.2.2.2.2.2.1 h0
      | 2, _ => exact lok h.2.2.2.2.2.2.2.1 h0
    refine l_add_new hL hcap (by omega) he ⟨5, by omega, fun i hi => (fw h hi).1⟩ hmc (by omega) (fun v q u2 hq hE hOq hNq hcp => ?_)
    have hA : ∀ k, k < 3 → t 5 k ≠ 0 → q ≠ t 4 k := fun k hk h0 => fun e2 => hq (by rw [e2]; exact (hne k hk h0).1)
    have hS := S_ext (S_mod h (B 0 5) v) hE
    have hG := S_grow0 hS hOq hNq hN.1 (by omega) (by omega) (fun i hi => ?_) (fun h0 => hA 1 (by omega) h0) (fun h0 => hA 2 (by omega) h0)
    · refine hK _ _ (S_put0 hG ?_ (some e)) ?_ ?_ ?_ (fun k b hb => ?_) (fun g b hg hb => ⟨?_, ?_⟩)
      · simp [tu_at]; omega
      · intro k i h4 h5; rw [tu_at, if_neg (by omega), tu_at, if_neg (by omega)]
      · simp [tu_at]; omega
      · simp [tu_at, gB_setB]
      · exact hE.ob (k := k) hb
      · rw [gI_setB, gI_setR, (hE b hb).2.2.2.1, gI_setI, if_neg (by omega)]
      · rw [gR_setB, gR_setR, if_neg (by omega), (hE b hb).2.2.2.2.1]; rfl
    · rw [hcp i hi, (hE _ (hne 0 (by omega) (by omega)).1).2.2.2.2.2.2]; rfl
theorem a_list1 (h : S2 B G s t ka s2 u) {e mc ms : Nat} (he : OB u e 5 ∨ OB u e 3) (hn : t 3 1 ≤ 300) (hmc : 1 ≤ mc) (hms : 450 ≤ ms) {K : Int32 → Mem → Prop} (hK : ∀ t' u', S2 B G s t' ka s2 u' → (∀ k i, k ≠ 4 → k ≠ 5 → t' k i = t k i) → t 3 1 < t' 5 1 → mB u' (t' 4 1) (t 3 1) = some e → (∀ k b, OB u b k → OB u' b k) → (∀ g b, 32 ≤ g → b ∈ mL u → mI u' g b = mI u g b ∧ mR u' g b = mR u g b) → K 1 (setI u' 2 (B 0 7) (nI (t 3 1 + 1)))) : w_Jx4a65c_add_9ea2d G (B 0 7) e mc ms u K := by
  have hL := h.2.2.2.2.2.2.1
  by_cases hc : t 3 1 < t 5 1
  · refine l_add_in hL hc he (fun v => hK t _ (S_put1 (S_mod h _ _) hc _) (fun k i _ _ => rfl) hc ?_ (fun k b hb => hb) (fun g b hg hb => ⟨?_, rfl⟩))
    · rw [gB_setB, if_pos ⟨rfl, rfl⟩]
    · rw [gI_setB, gI_setI, if_neg (by omega)]
  · have hcap : t 3 1 = t 5 1 := by have := hL.2.2.2.2.1; omega
    have hb10 := hL.2.2.2.1
    have hN := ncap_b (c := t 5 1) (by omega)
    have hN : 10 ≤ ncap (t 5 1) ∧ ncap (t 5 1) ≤ 450 ∧ t 5 1 < ncap (t 5 1) := by
      rcases hN with z | z
      · exact z
      · rcases hb10 with ⟨w, _⟩ | ⟨w, _⟩ <;> omega
    have hne : ∀ k, k < 3 → t 5 k ≠ 0 → OB u (t 4 k) 13 := fun k hk h0 => by
      match k, hk with
      | 0, _ => exact lok h.2.2.2.2.2.1 h0
      | 1, _ => exact lok h.2.2.2.2.2.2.1 h0
      | 2, _ => exact lok h.2.2.2.2.2.2.2.1 h0
    refine l_add_new hL hcap (by omega) he ⟨3, by omega, fun i hi => (fp h hi).1⟩ hmc (by omega) (fun v q u2 hq hE hOq hNq hcp => ?_)
    have hA : ∀ k, k < 3 → t 5 k ≠ 0 → q ≠ t 4 k := fun k hk h0 => fun e2 => hq (by rw [e2]; exact (hne k hk h0).1)
    have hS := S_ext (S_mod h (B 0 7) v) hE
    have hG := S_grow1 hS hOq hNq hN.1 (by omega) (by omega) (fun i hi => ?_) (fun h0 => hA 0 (by omega) h0) (fun h0 => hA 2 (by omega) h0)
    · refine hK _ _ (S_put1 hG ?_ (some e)) ?_ ?_ ?_ (fun k b hb => ?_) (fun g b hg hb => ⟨?_, ?_⟩)
      · simp [tu_at]; omega
      · intro k i h4 h5; rw [tu_at, if_neg (by omega), tu_at, if_neg (by omega)]
      · simp [tu_at]; omega
      · simp [tu_at, gB_setB]
      · exact hE.ob (k := k) hb
      · rw [gI_setB, gI_setR, (hE b hb).2.2.2.1, gI_setI, if_neg (by omega)]
      · rw [gR_setB, gR_setR, if_neg (by omega), (hE b hb).2.2.2.2.1]; rfl
    · rw [hcp i hi, (hE _ (hne 1 (by omega) (by omega)).1).2.2.2.2.2.2]; rfl
theorem a_list2 (h : S2 B G s t ka s2 u) {e mc ms : Nat} (he : OB u e 5 ∨ OB u e 3) (hn : ka.length ≤ 300) (hmc : 1 ≤ mc) (hms : 450 ≤ ms) {K : Int32 → Mem → Prop} (hK : ∀ t' u', S2 B G s t' ka s2 u' → (∀ k i, k ≠ 4 → k ≠ 5 → t' k i = t k i) → ka.length < t' 5 2 → mB u' (t' 4 2) (ka.length) = some e → (∀ k b, OB u b k → OB u' b k) → (∀ g b, 32 ≤ g → b ∈ mL u → mI u' g b = mI u g b ∧ mR u' g b = mR u g b) → K 1 (setI u' 2 (B 0 8) (nI (ka.length + 1)))) : w_Jx4a65c_add_9ea2d G (B 0 8) e mc ms u K := by
  have hL := h.2.2.2.2.2.2.2.1
  by_cases hc : ka.length < t 5 2
  · refine l_add_in hL hc he (fun v => hK t _ (S_put2 (S_mod h _ _) hc _) (fun k i _ _ => rfl) hc ?_ (fun k b hb => hb) (fun g b hg hb => ⟨?_, rfl⟩))
    · rw [gB_setB, if_pos ⟨rfl, rfl⟩]
    · rw [gI_setB, gI_setI, if_neg (by omega)]
  · have hcap : ka.length = t 5 2 := by have := hL.2.2.2.2.1; omega
    have hb10 := hL.2.2.2.1
    have hN := ncap_b (c := t 5 2) (by omega)
    have hN : 10 ≤ ncap (t 5 2) ∧ ncap (t 5 2) ≤ 450 ∧ t 5 2 < ncap (t 5 2) := by
      rcases hN with z | z
      · exact z
      · rcases hb10 with ⟨w, _⟩ | ⟨w, _⟩ <;> omega
    have hne : ∀ k, k < 3 → t 5 k ≠ 0 → OB u (t 4 k) 13 := fun k hk h0 => by
      match k, hk with
      | 0, _ => exact lok h.2.2.2.2.2.1 h0
      | 1, _ => exact lok h.2.2.2.2.2.2.1 h0
      | 2, _ => exact lok h.2.2.2.2.2.2.2.1 h0
    refine l_add_new hL hcap (by omega) he ⟨3, by omega, fun i hi => (fp h (kin h hi)).1⟩ hmc (by omega) (fun v q u2 hq hE hOq hNq hcp => ?_)
    have hA : ∀ k, k < 3 → t 5 k ≠ 0 → q ≠ t 4 k := fun k hk h0 => fun e2 => hq (by rw [e2]; exact (hne k hk h0).1)
    have hS := S_ext (S_mod h (B 0 8) v) hE
    have hG := S_grow2 hS hOq hNq hN.1 (by omega) (by omega) (fun i hi => ?_) (fun h0 => hA 0 (by omega) h0) (fun h0 => hA 1 (by omega) h0)
    · refine hK _ _ (S_put2 hG ?_ (some e)) ?_ ?_ ?_ (fun k b hb => ?_) (fun g b hg hb => ⟨?_, ?_⟩)
      · simp [tu_at]; omega
      · intro k i h4 h5; rw [tu_at, if_neg (by omega), tu_at, if_neg (by omega)]
      · simp [tu_at]; omega
      · simp [tu_at, gB_setB]
      · exact hE.ob (k := k) hb
      · rw [gI_setB, gI_setR, (hE b hb).2.2.2.1, gI_setI, if_neg (by omega)]
      · rw [gR_setB, gR_setR, if_neg (by omega), (hE b hb).2.2.2.2.1]; rfl
    · rw [hcp i hi, (hE _ (hne 2 (by omega) (by omega)).1).2.2.2.2.2.2]; rfl
end S2P
