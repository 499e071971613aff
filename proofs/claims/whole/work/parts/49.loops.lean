section S2P
variable {B : Nat → Nat → Nat} {G : Ctx} {s s2 : Nat → Nat → Int32} {t : Nat → Nat → Nat} {ka : List Nat} {u : Mem}
theorem BD_setB {G : Ctx} {d a3 a4 a5 a6 a7 a8 : Nat} {u : Mem} (h : BD G d a3 a4 a5 a6 a7 a8 u) (x i : Nat) (v : Option Nat) : BD G d a3 a4 a5 a6 a7 a8 (setB u x i v) := h
theorem c_l85 {G : Ctx} {d a3 a4 a5 a6 a7 a8 : Nat} {b r : Nat → Nat} {K : Mem → Prop} (hK : ∀ u e, BD G d a3 a4 a5 a6 a7 a8 u → StB a3 b r 8 u → EsB a4 e 4 u → K u) : ∀ n i mc ms (e : Nat → Nat) (u : Mem), i + n = 4 → BD G d a3 a4 a5 a6 a7 a8 u → StB a3 b r 8 u → EsB a4 e i u → n ≤ mc → 4 * n ≤ ms → w_X5_init_85 G d K (n + 1) (nI i) mc ms u := by
  intro n
  induction n with
  | zero =>
    intro i mc ms e u hi hD hS hE q1 q2
    have e4 : i = 4 := by omega
    subst e4
    obtain ⟨h1, h2, h3, h4, h5, h6, h7, h8, h9, h10, h11, h12⟩ := id hD
    rw [wS_X5_init_85]
    refine ⟨h1, fun x hx => ⟨_, hx.trans h3, h10, ?_⟩⟩
    rw [h11]
    exact ⟨fun _ => hK u e hD hS hE, fun z => absurd (by decide) z⟩
  | succ n ih =>
    intro i mc ms e u hi hD hS hE q1 q2
    have hi4 : i < 4 := by omega
    obtain ⟨h1, h2, h3, h4, h5, h6, h7, h8, h9, h10, h11, h12⟩ := id hD
    rw [wS_X5_init_85]
    refine ⟨h1, fun x hx => ⟨_, hx.trans h3, h10, ?_⟩⟩
    rw [h11]
    refine ⟨fun z => absurd z (nle hi4 (by decide)), fun _ => ⟨h1, fun x hx => ⟨by omega, by omega, fun q hq u1 k1 => ?_⟩⟩⟩
    rw [k1]
    refine c_es hq (fun u2 E2 F => ?_)
    have hD2 := BD_ext hD E2
    have hS2 := StB_ext hS h8.1 E2
    have hE2 := EsB_ext hE h10.1 E2
    refine ⟨a4, hx.trans h3, hD2.2.2.2.2.2.2.2.2.2.1, by rw [hD2.2.2.2.2.2.2.2.2.2.2.1]; exact vp_in_nI hi4 (by decide), F.1, fun u3 k3 => ?_⟩
    rw [k3, nI_1, nIc hi4 (by decide : 4 < 2 ^ 31)]
    have n34 : a3 ≠ a4 := ob_ne h8 h10 (by decide)
    refine ih (i + 1) _ _ (fun j => if j = i then q else e j) _ (by omega) (BD_setB hD2 _ _ _) ⟨fun j hj => ⟨?_, (hS2.1 j hj).2⟩, hS2.2⟩ ⟨fun j hj => ?_, fun j k hj hk he => ?_⟩ (by omega) (by omega)
    · rw [gB_setB, if_neg (fun z => n34 z.1)]; exact (hS2.1 j hj).1
    · show mB (setB u2 a4 i (some q)) a4 j = some (if j = i then q else e j) ∧ E1 (setB u2 a4 i (some q)) (if j = i then q else e j) j
      by_cases y : j = i
      · subst y
        refine ⟨by rw [gB_setB, if_pos ⟨rfl, rfl⟩, if_pos rfl], ?_⟩
        rw [if_pos rfl]; exact F
      · have := hE2.1 j (by omega)
        refine ⟨by rw [gB_setB, if_neg (fun z => y z.2), if_neg y]; exact this.1, ?_⟩
        rw [if_neg y]; exact this.2
    · have fr1 : ∀ j, j < i → e j ≠ q := fun j hj => ob_fresh (hE.1 j hj).2.1 hq
      by_cases y : j = i <;> by_cases y2 : k = i
      · omega
      · simp [y, y2] at he; exact absurd he.symm (fr1 k (by omega))
      · simp [y, y2] at he; exact absurd he (fr1 j (by omega))
      · simp [y, y2] at he; exact hE.2 j k (by omega) (by omega) he
theorem c_l55 {G : Ctx} {d a3 a4 a5 a6 a7 a8 : Nat} {K : Mem → Prop} (hK : ∀ u b r e, BD G d a3 a4 a5 a6 a7 a8 u → StB a3 b r 8 u → EsB a4 e 4 u → K u) : ∀ n i mc ms (b r : Nat → Nat) (u : Mem), i + n = 8 → BD G d a3 a4 a5 a6 a7 a8 u → StB a3 b r i u → 2 * n + 4 ≤ mc → 7 * n + 16 ≤ ms → w_X5_init_55 G d K (n + 1) (nI i) mc ms u := by
  intro n
  induction n with
  | zero =>
    intro i mc ms b r u hi hD hS q1 q2
    have e8 : i = 8 := by omega
    subst e8
    obtain ⟨h1, h2, h3, h4, h5, h6, h7, h8, h9, h10, h11, h12⟩ := id hD
    rw [wS_X5_init_55]
    refine ⟨h1, fun x hx => ⟨_, hx.trans h2, h8, ?_⟩⟩
    rw [h9]
    exact ⟨fun _ => ⟨5, c_l85 (fun u' e' hD' hS' hE' => hK u' b r e' hD' hS' hE') 4 0 mc ms (fun _ => 0) u (by omega) hD hS ⟨fun j hj => absurd hj (by omega), fun j k hj => absurd hj (by omega)⟩ (by omega) (by omega)⟩, fun z => absurd (by decide) z⟩
  | succ n ih =>
    intro i mc ms b r u hi hD hS q1 q2
    have hi8 : i < 8 := by omega
    obtain ⟨h1, h2, h3, h4, h5, h6, h7, h8, h9, h10, h11, h12⟩ := id hD
    rw [wS_X5_init_55]
    refine ⟨h1, fun x hx => ⟨_, hx.trans h2, h8, ?_⟩⟩
    rw [h9]
    refine ⟨fun z => absurd z (nle hi8 (by decide)), fun _ => ⟨h1, fun x hx => ⟨by omega, by omega, fun q hq u1 k1 => ⟨1, 3, by omega, by omega, ?_⟩⟩⟩⟩
    rw [k1]
    refine c_st hq (Nat.le_refl _) (Nat.le_refl _) (fun u2 r2 E2 F hr2 => ?_)
    have hD2 := BD_ext hD E2
    have hS2 := StB_ext hS h8.1 E2
    refine ⟨a3, hx.trans h2, hD2.2.2.2.2.2.2.2.1, by rw [hD2.2.2.2.2.2.2.2.2.1]; exact vp_in_nI hi8 (by decide), F.1, fun u3 k3 => ?_⟩
    rw [k3, nI_1, nIc hi8 (by decide : 8 < 2 ^ 31)]
    refine ih (i + 1) _ _ (fun j => if j = i then q else b j) (fun j => if j = i then r2 else r j) _ (by omega) (BD_setB hD2 _ _ _) ⟨fun j hj => ?_, fun j k hj hk he => ?_, fun j k hj hk he => ?_⟩ (by omega) (by omega)
    · show mB (setB u2 a3 i (some q)) a3 j = some (if j = i then q else b j) ∧ S1 (setB u2 a3 i (some q)) (if j = i then q else b j) (if j = i then r2 else r j)
      by_cases y : j = i
      · subst y
        refine ⟨by rw [gB_setB, if_pos ⟨rfl, rfl⟩, if_pos rfl], ?_⟩
        rw [if_pos rfl, if_pos rfl]; exact F
      · have := hS2.1 j (by omega)
        refine ⟨by rw [gB_setB, if_neg (fun z => y z.2), if_neg y]; exact this.1, ?_⟩
        rw [if_neg y, if_neg y]; exact this.2
    · have fr1 : ∀ j, j < i → b j ≠ q := fun j hj => ob_fresh (hS.1 j hj).2.1 hq
      by_cases y : j = i <;> by_cases y2 : k = i
      · omega
      · simp [y, y2] at he; exact absurd he.symm (fr1 k (by omega))
      · simp [y, y2] at he; exact absurd he (fr1 j (by omega))
      · simp [y, y2] at he; exact hS.2.1 j k (by omega) (by omega) he
    · have fr1 : ∀ j, j < i → r j ≠ r2 := fun j hj => ob_fresh (hS.1 j hj).2.2.2.2.2.2.1 hr2
      by_cases y : j = i <;> by_cases y2 : k = i
      · omega
      · simp [y, y2] at he; exact absurd he.symm (fr1 k (by omega))
      · simp [y, y2] at he; exact absurd he (fr1 j (by omega))
      · simp [y, y2] at he; exact hS.2.2 j k (by omega) (by omega) he
theorem c_lst {G : Ctx} {q : Nat} (hq : q ∉ mL u) {K : Mem → Prop} (hK : ∀ u', Ext u u' → lst G u' q → K u') : w_Jx4a65c_init_da8c8 G q (mNew u q 0 0) K := by
  have oq : OB (mNew u q 0 0) q 0 := gO_self
  refine ⟨oq, fun u1 h1 => ⟨by rw [h1]; exact oq, fun u2 h2 => hK u2 ?_ ⟨?_, ?_, ?_⟩⟩⟩
  · rw [h2, h1]; exact ((Ext.rf.new hq).setI hq _ _).setR hq _ _
  · rw [h2, h1]; exact oq
  · rw [h2, gR_setR, if_pos ⟨rfl, rfl⟩]
  · rw [h2, gI_setR, h1, gsn (by decide), gI_mNew, if_pos rfl]
theorem lst_setR {G : Ctx} {u : Mem} {a : Nat} (h : lst G u a) {f : Nat} (hf : f ≠ 1) (x : Nat) (v : Option Nat) : lst G (setR u f x v) a := ⟨h.1, by rw [gR_setR, if_neg (fun z => hf z.1.symm)]; exact h.2.1, h.2.2⟩
theorem lst_setI {G : Ctx} {u : Mem} {a : Nat} (h : lst G u a) {f : Nat} (hf : f ≠ 2) (x : Nat) (v : Int32) : lst G (setI u f x v) a := ⟨h.1, h.2.1, by rw [gI_setI, if_neg (fun z => hf z.1.symm)]; exact h.2.2⟩
end S2P
