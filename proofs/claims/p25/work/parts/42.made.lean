section S2P
variable {B : Nat → Nat → Nat} {G : Ctx} {s s2 : Nat → Nat → Int32} {t : Nat → Nat → Nat} {ka : List Nat} {u : Mem}
def lst (G : Ctx) (u : Mem) (a : Nat) : Prop := OB u a 0 ∧ mR u 1 a = some (G.2.2 1) ∧ mI u 2 a = 0
def BD (G : Ctx) (d a3 a4 a5 a6 a7 a8 : Nat) (u : Mem) : Prop := OB u d 6 ∧ mR u 192 d = some a3 ∧ mR u 193 d = some a4 ∧ mR u 194 d = some a5 ∧ mR u 195 d = some a6 ∧ mI u 196 d = 0 ∧ mI u 197 d = 0 ∧ OB u a3 11 ∧ mN u a3 = 8 ∧ OB u a4 12 ∧ mN u a4 = 4 ∧ OB u a6 1 ∧ mR u 32 a6 = some a7 ∧ mR u 33 a6 = some a8 ∧ lst G u a5 ∧ lst G u a7 ∧ lst G u a8 ∧ a5 ≠ a7 ∧ a5 ≠ a8 ∧ a7 ≠ a8
def S1 (u : Mem) (b r : Nat) : Prop := OB u b 4 ∧ mI u 128 b = 0 ∧ mI u 129 b = 1 ∧ mI u 130 b = 0 ∧ mR u 131 b = some r ∧ OB u r 8 ∧ mN u r = 3 ∧ ∀ k, k < 3 → mA u r k = 7
def StB (a3 : Nat) (b r : Nat → Nat) (i : Nat) (u : Mem) : Prop := (∀ j, j < i → mB u a3 j = some (b j) ∧ S1 u (b j) (r j)) ∧ (∀ j k, j < i → k < i → b j = b k → j = k) ∧ (∀ j k, j < i → k < i → r j = r k → j = k)
def E1 (u : Mem) (e j : Nat) : Prop := OB u e 2 ∧ mI u 64 e = nI j ∧ mI u 65 e = 0 ∧ mI u 66 e = 50 ∧ mI u 67 e = 1
def EsB (a4 : Nat) (e : Nat → Nat) (i : Nat) (u : Mem) : Prop := (∀ j, j < i → mB u a4 j = some (e j) ∧ E1 u (e j) j) ∧ (∀ j k, j < i → k < i → e j = e k → j = k)
theorem lst_ext {G : Ctx} {u v : Mem} {a : Nat} (h : lst G u a) (hE : Ext u v) : lst G v a := by
  have k := hE a h.1.1
  exact ⟨hE.ob h.1, by rw [k.2.2.2.2.1]; exact h.2.1, by rw [k.2.2.2.1]; exact h.2.2⟩
theorem BD_ext {G : Ctx} {d a3 a4 a5 a6 a7 a8 : Nat} {u v : Mem} (h : BD G d a3 a4 a5 a6 a7 a8 u) (hE : Ext u v) : BD G d a3 a4 a5 a6 a7 a8 v := by
  obtain ⟨h1, h2, h3, h4, h5, h6, h7, h8, h9, h10, h11, h12, h13, h14, h15, h16, h17, h18⟩ := h
  have kd := hE d h1.1
  have k3 := hE a3 h8.1
  have k4 := hE a4 h10.1
  have k6 := hE a6 h12.1
  exact ⟨hE.ob h1, by rw [kd.2.2.2.2.1]; exact h2, by rw [kd.2.2.2.2.1]; exact h3, by rw [kd.2.2.2.2.1]; exact h4, by rw [kd.2.2.2.2.1]; exact h5, by rw [kd.2.2.2.1]; exact h6, by rw [kd.2.2.2.1]; exact h7, hE.ob h8, by rw [k3.2.2.1]; exact h9, hE.ob h10, by rw [k4.2.2.1]; exact h11, hE.ob h12, by rw [k6.2.2.2.2.1]; exact h13, by rw [k6.2.2.2.2.1]; exact h14, lst_ext h15 hE, lst_ext h16 hE, lst_ext h17 hE, h18⟩
theorem S1_ext {u v : Mem} {b r : Nat} (h : S1 u b r) (hE : Ext u v) : S1 v b r := by
  obtain ⟨h1, h2, h3, h4, h5, h6, h7, h8⟩ := h
  have kb := hE b h1.1
  have kr := hE r h6.1
  exact ⟨hE.ob h1, by rw [kb.2.2.2.1]; exact h2, by rw [kb.2.2.2.1]; exact h3, by rw [kb.2.2.2.1]; exact h4, by rw [kb.2.2.2.2.1]; exact h5, hE.ob h6, by rw [kr.2.2.1]; exact h7, fun k hk => by rw [kr.2.2.2.2.2.1]; exact h8 k hk⟩
theorem E1_ext {u v : Mem} {e j : Nat} (h : E1 u e j) (hE : Ext u v) : E1 v e j := by
  obtain ⟨h1, h2, h3, h4, h5⟩ := h
  have kb := hE e h1.1
  exact ⟨hE.ob h1, by rw [kb.2.2.2.1]; exact h2, by rw [kb.2.2.2.1]; exact h3, by rw [kb.2.2.2.1]; exact h4, by rw [kb.2.2.2.1]; exact h5⟩
theorem StB_ext {u v : Mem} {a3 i : Nat} {b r : Nat → Nat} (h : StB a3 b r i u) (h3 : a3 ∈ mL u) (hE : Ext u v) : StB a3 b r i v :=
  ⟨fun j hj => ⟨by rw [(hE a3 h3).2.2.2.2.2.2]; exact (h.1 j hj).1, S1_ext (h.1 j hj).2 hE⟩, h.2⟩
theorem EsB_ext {u v : Mem} {a4 i : Nat} {e : Nat → Nat} (h : EsB a4 e i u) (h3 : a4 ∈ mL u) (hE : Ext u v) : EsB a4 e i v :=
  ⟨fun j hj => ⟨by rw [(hE a4 h3).2.2.2.2.2.2]; exact (h.1 j hj).1, E1_ext (h.1 j hj).2 hE⟩, h.2⟩
theorem c_st {q mc ms : Nat} (hq : q ∉ mL u) (hmc : 1 ≤ mc) (hms : 3 ≤ ms) {K : Mem → Prop} (hK : ∀ u' r, Ext u u' → S1 u' q r → r ∉ mL u → K u') : w_X3_init G q mc ms (mNew u q 4 0) K := by
  have oq : OB (mNew u q 4 0) q 4 := gO_self
  refine ⟨oq, fun u1 h1 => ⟨by rw [h1]; exact oq, fun u2 h2 => ⟨by rw [h2, h1]; exact oq, .inl rfl, fun u3 h3 => ⟨hmc, hms, fun r hr u5 h5 => ?_⟩⟩⟩⟩
  have E3 : Ext u u3 := by rw [h3, h2, h1]; exact (((Ext.rf.new hq).setI hq _ _).setI hq _ _).setI hq _ _
  have o3 : OB u3 q 4 := by rw [h3, h2, h1]; exact oq
  have i1 : mI u3 128 q = 0 := by rw [h3, gsn (by decide), h2, gsn (by decide), h1, gse]
  have i2 : mI u3 129 q = 1 := by rw [h3, gsn (by decide), h2, gse]
  have i3 : mI u3 130 q = 0 := by rw [h3, gse]
  clear h1 h2 h3
  have hru := E3.nin hr
  have hrq : q ≠ r := fun e => hr (e ▸ o3.1)
  have o5 : OB u5 q 4 := by rw [h5]; exact gO_new hr o3
  refine ⟨o5, fun u6 h6 => ⟨4, ?_⟩⟩
  have E6 : Ext u u6 := by rw [h6, h5]; exact (E3.new hr).setR hq _ _
  have o6 : OB u6 q 4 := by rw [h6]; exact o5
  have or6 : OB u6 r 8 := by rw [h6, h5]; exact (gO_self : OB (mNew u3 r 8 3) r 8)
  have n6 : mN u6 r = 3 := by rw [h6, gN_setR, h5, gN_mNew, if_pos rfl]
  have j1 : mI u6 128 q = 0 := by rw [h6, gI_setR, h5, gI_mNew, if_neg hrq]; exact i1
  have j2 : mI u6 129 q = 1 := by rw [h6, gI_setR, h5, gI_mNew, if_neg hrq]; exact i2
  have j3 : mI u6 130 q = 0 := by rw [h6, gI_setR, h5, gI_mNew, if_neg hrq]; exact i3
  have j4 : mR u6 131 q = some r := by rw [h6, gR_setR, if_pos ⟨rfl, rfl⟩]
  clear h5 h6 i1 i2 i3 o3 o5 E3
  have v0 : vp_in (0 : Int32) 3 := vp_in_nI (n := 0) (by decide) (by decide)
  have v1 : vp_in (1 : Int32) 3 := vp_in_nI (n := 1) (by decide) (by decide)
  have v2 : vp_in (2 : Int32) 3 := vp_in_nI (n := 2) (by decide) (by decide)
  have g0 : ¬ (nI 3 ≤ (0 : Int32)) := by decide
  have g1 : ¬ (nI 3 ≤ (1 : Int32)) := by decide
  have g2 : ¬ (nI 3 ≤ (2 : Int32)) := by decide
  have g3 : nI 3 ≤ (3 : Int32) := by decide
  have t0 : (0 : Int32).toNatClampNeg = 0 := rfl
  have t1 : (1 : Int32).toNatClampNeg = 1 := rfl
  have t2 : (2 : Int32).toNatClampNeg = 2 := rfl
  have p1 : (0 : Int32) + 1 = 1 := rfl
  have p2 : (1 : Int32) + 1 = 2 := rfl
  have p3 : (2 : Int32) + 1 = 3 := rfl
  rw [wS_X3_init_28]
  refine ⟨o6, fun x hx => ⟨r, hx.trans j4, or6, ?_⟩⟩
  rw [n6]
  refine ⟨fun z => absurd z g0, fun _ => ⟨o6, fun x hx => ⟨r, hx.trans j4, or6, by rw [n6]; exact v0, fun w1 k1 => ?_⟩⟩⟩
  rw [t0] at k1
  have m1 : mR w1 131 q = some r := by rw [k1]; exact j4
  have m2 : mN w1 r = 3 := by rw [k1]; exact n6
  rw [p1, wS_X3_init_28]
  refine ⟨by rw [k1]; exact o6, fun x hx => ⟨r, hx.trans m1, by rw [k1]; exact or6, ?_⟩⟩
  rw [m2]
  refine ⟨fun z => absurd z g1, fun _ => ⟨by rw [k1]; exact o6, fun x hx => ⟨r, hx.trans m1, by rw [k1]; exact or6, by rw [m2]; exact v1, fun w2 k2 => ?_⟩⟩⟩
  rw [t1] at k2
  have m3 : mR w2 131 q = some r := by rw [k2]; exact m1
  have m4 : mN w2 r = 3 := by rw [k2]; exact m2
  rw [p2, wS_X3_init_28]
  refine ⟨by rw [k2, k1]; exact o6, fun x hx => ⟨r, hx.trans m3, by rw [k2, k1]; exact or6, ?_⟩⟩
  rw [m4]
  refine ⟨fun z => absurd z g2, fun _ => ⟨by rw [k2, k1]; exact o6, fun x hx => ⟨r, hx.trans m3, by rw [k2, k1]; exact or6, by rw [m4]; exact v2, fun w3 k3 => ?_⟩⟩⟩
  rw [t2] at k3
  have m5 : mR w3 131 q = some r := by rw [k3]; exact m3
  have m6 : mN w3 r = 3 := by rw [k3]; exact m4
  rw [p3, wS_X3_init_28]
  refine ⟨by rw [k3, k2, k1]; exact o6, fun x hx => ⟨r, hx.trans m5, by rw [k3, k2, k1]; exact or6, ?_⟩⟩
  rw [m6]
  refine ⟨fun _ => hK w3 r ?_ ⟨?_, ?_, ?_, ?_, m5, ?_, m6, fun k hk => ?_⟩ hru, fun z => absurd g3 z⟩
  · rw [k3, k2, k1]; exact ((E6.setA hru _ _).setA hru _ _).setA hru _ _
  · rw [k3, k2, k1]; exact o6
  · rw [k3, gI_setA, k2, gI_setA, k1, gI_setA]; exact j1
  · rw [k3, gI_setA, k2, gI_setA, k1, gI_setA]; exact j2
  · rw [k3, gI_setA, k2, gI_setA, k1, gI_setA]; exact j3
  · rw [k3, k2, k1]; exact or6
  · rw [k3, gA_setA]
    by_cases y2 : k = 2
    · rw [if_pos ⟨rfl, y2⟩]
    · rw [if_neg (fun e => y2 e.2), k2, gA_setA]
      by_cases y1 : k = 1
      · rw [if_pos ⟨rfl, y1⟩]
      · rw [if_neg (fun e => y1 e.2), k1, gA_setA, if_pos ⟨rfl, by omega⟩]
theorem c_es {q j : Nat} (hq : q ∉ mL u) {K : Mem → Prop} (hK : ∀ u', Ext u u' → E1 u' q j → K u') : w_X1_init G q (nI j) (mNew u q 2 0) K := by
  have oq : OB (mNew u q 2 0) q 2 := gO_self
  refine ⟨oq, fun u1 h1 => ⟨by rw [h1]; exact oq, fun u2 h2 => ⟨by rw [h2, h1]; exact oq, .inr rfl, fun u3 h3 => ⟨by rw [h3, h2, h1]; exact oq, fun u4 h4 => ?_⟩⟩⟩⟩
  refine hK u4 ?_ ⟨?_, ?_, ?_, ?_, ?_⟩
  · rw [h4, h3, h2, h1]; exact ((((Ext.rf.new hq).setI hq _ _).setI hq _ _).setI hq _ _).setI hq _ _
  · rw [h4, h3, h2, h1]; exact oq
  · rw [h4, gse]
  · rw [h4, gsn (by decide), h3, gsn (by decide), h2, gsn (by decide), h1, gse]
  · rw [h4, gsn (by decide), h3, gsn (by decide), h2, gse]
  · rw [h4, gsn (by decide), h3, gse]
theorem BD_setB {G : Ctx} {d a3 a4 a5 a6 a7 a8 : Nat} {u : Mem} (h : BD G d a3 a4 a5 a6 a7 a8 u) (x i : Nat) (v : Option Nat) : BD G d a3 a4 a5 a6 a7 a8 (setB u x i v) := h
theorem c_l85 {G : Ctx} {d a3 a4 a5 a6 a7 a8 : Nat} {b r : Nat → Nat} {K : Mem → Prop} (hK : ∀ u e, BD G d a3 a4 a5 a6 a7 a8 u → StB a3 b r 8 u → EsB a4 e 4 u → K u) : ∀ n i mc ms (e : Nat → Nat) (u : Mem), i + n = 4 → BD G d a3 a4 a5 a6 a7 a8 u → StB a3 b r 8 u → EsB a4 e i u → n ≤ mc → 4 * n ≤ ms → w_X5_init_85 G d K (n + 1) (nI i) mc ms u := by
  intro n
  induction n with
  | zero =>
    intro i mc ms e u hi hD hS hE q1 q2
    have e4 : i = 4 := by omega
    subst e4
    obtain ⟨h1, h2, h3, h4, h5, h6, h7, h8, h9, h10, h11, h12⟩ := id hD
    rw [wS_X5_init_85]
    refine ⟨h1, fun x hx => ⟨_, hx.trans h3, h10, ?_⟩⟩
    rw [h11]
    exact ⟨fun _ => hK u e hD hS hE, fun z => absurd (by decide) z⟩
  | succ n ih =>
    intro i mc ms e u hi hD hS hE q1 q2
    have hi4 : i < 4 := by omega
    obtain ⟨h1, h2, h3, h4, h5, h6, h7, h8, h9, h10, h11, h12⟩ := id hD
    rw [wS_X5_init_85]
    refine ⟨h1, fun x hx => ⟨_, hx.trans h3, h10, ?_⟩⟩
    rw [h11]
    refine ⟨fun z => absurd z (nle hi4 (by decide)), fun _ => ⟨h1, fun x hx => ⟨by omega, by omega, fun q hq u1 k1 => ?_⟩⟩⟩
    rw [k1]
    refine c_es hq (fun u2 E2 F => ?_)
    have hD2 := BD_ext hD E2
    have hS2 := StB_ext hS h8.1 E2
    have hE2 := EsB_ext hE h10.1 E2
    refine ⟨a4, hx.trans h3, hD2.2.2.2.2.2.2.2.2.2.1, by rw [hD2.2.2.2.2.2.2.2.2.2.2.1]; exact vp_in_nI hi4 (by decide), F.1, fun u3 k3 => ?_⟩
    rw [k3, nI_1, nIc hi4 (by decide : 4 < 2 ^ 31)]
    have n34 : a3 ≠ a4 := ob_ne h8 h10 (by decide)
    refine ih (i + 1) _ _ (fun j => if j = i then q else e j) _ (by omega) (BD_setB hD2 _ _ _) ⟨fun j hj => ⟨?_, (hS2.1 j hj).2⟩, hS2.2⟩ ⟨fun j hj => ?_, fun j k hj hk he => ?_⟩ (by omega) (by omega)
    · rw [gB_setB, if_neg (fun z => n34 z.1)]; exact (hS2.1 j hj).1
    · show mB (setB u2 a4 i (some q)) a4 j = some (if j = i then q else e j) ∧ E1 (setB u2 a4 i (some q)) (if j = i then q else e j) j
      by_cases y : j = i
      · subst y
        refine ⟨by rw [gB_setB, if_pos ⟨rfl, rfl⟩, if_pos rfl], ?_⟩
        rw [if_pos rfl]; exact F
      · have := hE2.1 j (by omega)
        refine ⟨by rw [gB_setB, if_neg (fun z => y z.2), if_neg y]; exact this.1, ?_⟩
        rw [if_neg y]; exact this.2
    · have fr1 : ∀ j, j < i → e j ≠ q := fun j hj => ob_fresh (hE.1 j hj).2.1 hq
      by_cases y : j = i <;> by_cases y2 : k = i
      · omega
      · simp [y, y2] at he; exact absurd he.symm (fr1 k (by omega))
      · simp [y, y2] at he; exact absurd he (fr1 j (by omega))
      · simp [y, y2] at he; exact hE.2 j k (by omega) (by omega) he
theorem c_l55 {G : Ctx} {d a3 a4 a5 a6 a7 a8 : Nat} {K : Mem → Prop} (hK : ∀ u b r e, BD G d a3 a4 a5 a6 a7 a8 u → StB a3 b r 8 u → EsB a4 e 4 u → K u) : ∀ n i mc ms (b r : Nat → Nat) (u : Mem), i + n = 8 → BD G d a3 a4 a5 a6 a7 a8 u → StB a3 b r i u → 2 * n + 4 ≤ mc → 7 * n + 16 ≤ ms → w_X5_init_55 G d K (n + 1) (nI i) mc ms u := by
  intro n
  induction n with
  | zero =>
    intro i mc ms b r u hi hD hS q1 q2
    have e8 : i = 8 := by omega
    subst e8
    obtain ⟨h1, h2, h3, h4, h5, h6, h7, h8, h9, h10, h11, h12⟩ := id hD
    rw [wS_X5_init_55]
    refine ⟨h1, fun x hx => ⟨_, hx.trans h2, h8, ?_⟩⟩
    rw [h9]
    exact ⟨fun _ => ⟨5, c_l85 (fun u' e' hD' hS' hE' => hK u' b r e' hD' hS' hE') 4 0 mc ms (fun _ => 0) u (by omega) hD hS ⟨fun j hj => absurd hj (by omega), fun j k hj => absurd hj (by omega)⟩ (by omega) (by omega)⟩, fun z => absurd (by decide) z⟩
  | succ n ih =>
    intro i mc ms b r u hi hD hS q1 q2
    have hi8 : i < 8 := by omega
    obtain ⟨h1, h2, h3, h4, h5, h6, h7, h8, h9, h10, h11, h12⟩ := id hD
    rw [wS_X5_init_55]
    refine ⟨h1, fun x hx => ⟨_, hx.trans h2, h8, ?_⟩⟩
    rw [h9]
    refine ⟨fun z => absurd z (nle hi8 (by decide)), fun _ => ⟨h1, fun x hx => ⟨by omega, by omega, fun q hq u1 k1 => ⟨1, 3, by omega, by omega, ?_⟩⟩⟩⟩
    rw [k1]
    refine c_st hq (Nat.le_refl _) (Nat.le_refl _) (fun u2 r2 E2 F hr2 => ?_)
    have hD2 := BD_ext hD E2
    have hS2 := StB_ext hS h8.1 E2
    refine ⟨a3, hx.trans h2, hD2.2.2.2.2.2.2.2.1, by rw [hD2.2.2.2.2.2.2.2.2.1]; exact vp_in_nI hi8 (by decide), F.1, fun u3 k3 => ?_⟩
    rw [k3, nI_1, nIc hi8 (by decide : 8 < 2 ^ 31)]
    refine ih (i + 1) _ _ (fun j => if j = i then q else b j) (fun j => if j = i then r2 else r j) _ (by omega) (BD_setB hD2 _ _ _) ⟨fun j hj => ?_, fun j k hj hk he => ?_, fun j k hj hk he => ?_⟩ (by omega) (by omega)
    · show mB (setB u2 a3 i (some q)) a3 j = some (if j = i then q else b j) ∧ S1 (setB u2 a3 i (some q)) (if j = i then q else b j) (if j = i then r2 else r j)
      by_cases y : j = i
      · subst y
        refine ⟨by rw [gB_setB, if_pos ⟨rfl, rfl⟩, if_pos rfl], ?_⟩
        rw [if_pos rfl, if_pos rfl]; exact F
      · have := hS2.1 j (by omega)
        refine ⟨by rw [gB_setB, if_neg (fun z => y z.2), if_neg y]; exact this.1, ?_⟩
        rw [if_neg y, if_neg y]; exact this.2
    · have fr1 : ∀ j, j < i → b j ≠ q := fun j hj => ob_fresh (hS.1 j hj).2.1 hq
      by_cases y : j = i <;> by_cases y2 : k = i
      · omega
      · simp [y, y2] at he; exact absurd he.symm (fr1 k (by omega))
      · simp [y, y2] at he; exact absurd he (fr1 j (by omega))
      · simp [y, y2] at he; exact hS.2.1 j k (by omega) (by omega) he
    · have fr1 : ∀ j, j < i → r j ≠ r2 := fun j hj => ob_fresh (hS.1 j hj).2.2.2.2.2.2.1 hr2
      by_cases y : j = i <;> by_cases y2 : k = i
      · omega
      · simp [y, y2] at he; exact absurd he.symm (fr1 k (by omega))
      · simp [y, y2] at he; exact absurd he (fr1 j (by omega))
      · simp [y, y2] at he; exact hS.2.2 j k (by omega) (by omega) he
theorem c_lst {G : Ctx} {q : Nat} (hq : q ∉ mL u) {K : Mem → Prop} (hK : ∀ u', Ext u u' → lst G u' q → K u') : w_Jx4a65c_init_da8c8 G q (mNew u q 0 0) K := by
  have oq : OB (mNew u q 0 0) q 0 := gO_self
  refine ⟨oq, fun u1 h1 => ⟨by rw [h1]; exact oq, fun u2 h2 => hK u2 ?_ ⟨?_, ?_, ?_⟩⟩⟩
  · rw [h2, h1]; exact ((Ext.rf.new hq).setI hq _ _).setR hq _ _
  · rw [h2, h1]; exact oq
  · rw [h2, gR_setR, if_pos ⟨rfl, rfl⟩]
  · rw [h2, gI_setR, h1, gsn (by decide), gI_mNew, if_pos rfl]
theorem lst_setR {G : Ctx} {u : Mem} {a : Nat} (h : lst G u a) {f : Nat} (hf : f ≠ 1) (x : Nat) (v : Option Nat) : lst G (setR u f x v) a := ⟨h.1, by rw [gR_setR, if_neg (fun z => hf z.1.symm)]; exact h.2.1, h.2.2⟩
theorem lst_setI {G : Ctx} {u : Mem} {a : Nat} (h : lst G u a) {f : Nat} (hf : f ≠ 2) (x : Nat) (v : Int32) : lst G (setI u f x v) a := ⟨h.1, h.2.1, by rw [gI_setI, if_neg (fun z => hf z.1.symm)]; exact h.2.2⟩
theorem c_init {G : Ctx} {d MC MS : Nat} (hd : OB u d 6) (hmc : 100 ≤ MC) (hms : 1000 ≤ MS) {K : Mem → Prop} (hK : ∀ u' a3 a4 a5 a6 a7 a8 b r e, BD G d a3 a4 a5 a6 a7 a8 u' → StB a3 b r 8 u' → EsB a4 e 4 u' → K u') : w_X5_init G d MC MS u K := by
  refine ⟨by omega, by omega, fun q1 hq1 u2 h2 => ?_⟩
  have Xq1 : Ext u u2 := by rw [h2]; exact Ext.rf.new hq1
  have k1 : OB u2 d 6 := Xq1.ob hd
  have k2 : OB u2 q1 11 := by rw [h2]; exact (gO_self : OB (mNew u q1 11 8) q1 11)
  have k3 : mN u2 q1 = 8 := by rw [h2, gN_mNew, if_pos rfl]
  refine ⟨k1, fun u3 h3 => ?_⟩
  have k4 : OB u3 d 6 := by rw [h3]; exact k1
  have k5 : OB u3 q1 11 := by rw [h3]; exact k2
  have k6 : mN u3 q1 = 8 := by rw [h3]; exact k3
  have k7 : mR u3 192 d = some q1 := by rw [h3, gR_setR, if_pos ⟨rfl, rfl⟩]
  refine ⟨by omega, by omega, fun q4 hq4 u5 h5 => ?_⟩
  have Xq4 : Ext u3 u5 := by rw [h5]; exact Ext.rf.new hq4
  have k8 : OB u5 d 6 := Xq4.ob k4
  have k9 : OB u5 q1 11 := Xq4.ob k5
  have k10 : mN u5 q1 = 8 := by rw [(Xq4 _ k5.1).2.2.1]; exact k6
  have k11 : mR u5 192 d = some q1 := by rw [(Xq4 _ k4.1).2.2.2.2.1]; exact k7
  have k12 : OB u5 q4 12 := by rw [h5]; exact (gO_self : OB (mNew u3 q4 12 4) q4 12)
  have k13 : mN u5 q4 = 4 := by rw [h5, gN_mNew, if_pos rfl]
  refine ⟨k8, fun u6 h6 => ?_⟩
  have k14 : OB u6 d 6 := by rw [h6]; exact k8
  have k15 : OB u6 q1 11 := by rw [h6]; exact k9
  have k16 : mN u6 q1 = 8 := by rw [h6]; exact k10
  have k17 : mR u6 192 d = some q1 := by rw [h6, gR_setR, if_neg (fun z => absurd z.1 (by decide))]; exact k11
  have k18 : OB u6 q4 12 := by rw [h6]; exact k12
  have k19 : mN u6 q4 = 4 := by rw [h6]; exact k13
  have k20 : mR u6 193 d = some q4 := by rw [h6, gR_setR, if_pos ⟨rfl, rfl⟩]
  refine ⟨by omega, by omega, fun q7 hq7 u8 h8 => ?_⟩
  rw [h8]
  refine c_lst hq7 (fun u9 E9 l9 => ?_)
  have k21 : OB u9 d 6 := E9.ob k14
  have k22 : OB u9 q1 11 := E9.ob k15
  have k23 : mN u9 q1 = 8 := by rw [(E9 _ k15.1).2.2.1]; exact k16
  have k24 : mR u9 192 d = some q1 := by rw [(E9 _ k14.1).2.2.2.2.1]; exact k17
  have k25 : OB u9 q4 12 := E9.ob k18
  have k26 : mN u9 q4 = 4 := by rw [(E9 _ k18.1).2.2.1]; exact k19
  have k27 : mR u9 193 d = some q4 := by rw [(E9 _ k14.1).2.2.2.2.1]; exact k20
  have k28 : OB u9 q7 0 := l9.1
  have k29 : mR u9 1 q7 = some (G.2.2 1) := l9.2.1
  have k30 : mI u9 2 q7 = 0 := l9.2.2
  refine ⟨k21, fun u11 h11 => ?_⟩
  have k31 : OB u11 d 6 := by rw [h11]; exact k21
  have k32 : OB u11 q1 11 := by rw [h11]; exact k22
  have k33 : mN u11 q1 = 8 := by rw [h11]; exact k23
  have k34 : mR u11 192 d = some q1 := by rw [h11, gR_setR, if_neg (fun z => absurd z.1 (by decide))]; exact k24
  have k35 : OB u11 q4 12 := by rw [h11]; exact k25
  have k36 : mN u11 q4 = 4 := by rw [h11]; exact k26
  have k37 : mR u11 193 d = some q4 := by rw [h11, gR_setR, if_neg (fun z => absurd z.1 (by decide))]; exact k27
  have k38 : OB u11 q7 0 := by rw [h11]; exact k28
  have k39 : mR u11 1 q7 = some (G.2.2 1) := by rw [h11, gR_setR, if_neg (fun z => absurd z.1 (by decide))]; exact k29
  have k40 : mI u11 2 q7 = 0 := by rw [h11]; exact k30
  have k41 : mR u11 194 d = some q7 := by rw [h11, gR_setR, if_pos ⟨rfl, rfl⟩]
  refine ⟨by omega, by omega, fun q12 hq12 u13 h13 => ?_⟩
  have Xq12 : Ext u11 u13 := by rw [h13]; exact Ext.rf.new hq12
  have k42 : OB u13 d 6 := Xq12.ob k31
  have k43 : OB u13 q1 11 := Xq12.ob k32
  have k44 : mN u13 q1 = 8 := by rw [(Xq12 _ k32.1).2.2.1]; exact k33
  have k45 : mR u13 192 d = some q1 := by rw [(Xq12 _ k31.1).2.2.2.2.1]; exact k34
  have k46 : OB u13 q4 12 := Xq12.ob k35
  have k47 : mN u13 q4 = 4 := by rw [(Xq12 _ k35.1).2.2.1]; exact k36
  have k48 : mR u13 193 d = some q4 := by rw [(Xq12 _ k31.1).2.2.2.2.1]; exact k37
  have k49 : OB u13 q7 0 := Xq12.ob k38
  have k50 : mR u13 1 q7 = some (G.2.2 1) := by rw [(Xq12 _ k38.1).2.2.2.2.1]; exact k39
  have k51 : mI u13 2 q7 = 0 := by rw [(Xq12 _ k38.1).2.2.2.1]; exact k40
  have k52 : mR u13 194 d = some q7 := by rw [(Xq12 _ k31.1).2.2.2.2.1]; exact k41
  have k53 : OB u13 q12 1 := by rw [h13]; exact (gO_self : OB (mNew u11 q12 1 0) q12 1)
  have k54 : mN u13 q12 = 0 := by rw [h13, gN_mNew, if_pos rfl]
  refine ⟨2, 6, by omega, by omega, by omega, by omega, fun qa hqa w2 g2 => ?_⟩
  have ne57 : q7 ≠ qa := ob_fresh k49 hqa
  rw [g2]
  refine c_lst hqa (fun w3 E3 l3 => ?_)
  have k55 : OB w3 d 6 := E3.ob k42
  have k56 : OB w3 q1 11 := E3.ob k43
  have k57 : mN w3 q1 = 8 := by rw [(E3 _ k43.1).2.2.1]; exact k44
  have k58 : mR w3 192 d = some q1 := by rw [(E3 _ k42.1).2.2.2.2.1]; exact k45
  have k59 : OB w3 q4 12 := E3.ob k46
  have k60 : mN w3 q4 = 4 := by rw [(E3 _ k46.1).2.2.1]; exact k47
  have k61 : mR w3 193 d = some q4 := by rw [(E3 _ k42.1).2.2.2.2.1]; exact k48
  have k62 : OB w3 q7 0 := E3.ob k49
  have k63 : mR w3 1 q7 = some (G.2.2 1) := by rw [(E3 _ k49.1).2.2.2.2.1]; exact k50
  have k64 : mI w3 2 q7 = 0 := by rw [(E3 _ k49.1).2.2.2.1]; exact k51
  have k65 : mR w3 194 d = some q7 := by rw [(E3 _ k42.1).2.2.2.2.1]; exact k52
  have k66 : OB w3 q12 1 := E3.ob k53
  have k67 : mN w3 q12 = 0 := by rw [(E3 _ k53.1).2.2.1]; exact k54
  have k68 : OB w3 qa 0 := l3.1
  have k69 : mR w3 1 qa = some (G.2.2 1) := l3.2.1
  have k70 : mI w3 2 qa = 0 := l3.2.2
  refine ⟨k66, fun w5 g5 => ?_⟩
  have k71 : OB w5 d 6 := by rw [g5]; exact k55
  have k72 : OB w5 q1 11 := by rw [g5]; exact k56
  have k73 : mN w5 q1 = 8 := by rw [g5]; exact k57
  have k74 : mR w5 192 d = some q1 := by rw [g5, gR_setR, if_neg (fun z => absurd z.1 (by decide))]; exact k58
  have k75 : OB w5 q4 12 := by rw [g5]; exact k59
  have k76 : mN w5 q4 = 4 := by rw [g5]; exact k60
  have k77 : mR w5 193 d = some q4 := by rw [g5, gR_setR, if_neg (fun z => absurd z.1 (by decide))]; exact k61
  have k78 : OB w5 q7 0 := by rw [g5]; exact k62
  have k79 : mR w5 1 q7 = some (G.2.2 1) := by rw [g5, gR_setR, if_neg (fun z => absurd z.1 (by decide))]; exact k63
  have k80 : mI w5 2 q7 = 0 := by rw [g5]; exact k64
  have k81 : mR w5 194 d = some q7 := by rw [g5, gR_setR, if_neg (fun z => absurd z.1 (by decide))]; exact k65
  have k82 : OB w5 q12 1 := by rw [g5]; exact k66
  have k83 : mN w5 q12 = 0 := by rw [g5]; exact k67
  have k84 : OB w5 qa 0 := by rw [g5]; exact k68
  have k85 : mR w5 1 qa = some (G.2.2 1) := by rw [g5, gR_setR, if_neg (fun z => absurd z.1 (by decide))]; exact k69
  have k86 : mI w5 2 qa = 0 := by rw [g5]; exact k70
  have k87 : mR w5 32 q12 = some qa := by rw [g5, gR_setR, if_pos ⟨rfl, rfl⟩]
  refine ⟨by omega, by omega, fun qb hqb w7 g7 => ?_⟩
  have ne58 : q7 ≠ qb := ob_fresh k78 hqb
  have ne78 : qa ≠ qb := ob_fresh k84 hqb
  rw [g7]
  refine c_lst hqb (fun w8 E8 l8 => ?_)
  have k88 : OB w8 d 6 := E8.ob k71
  have k89 : OB w8 q1 11 := E8.ob k72
  have k90 : mN w8 q1 = 8 := by rw [(E8 _ k72.1).2.2.1]; exact k73
  have k91 : mR w8 192 d = some q1 := by rw [(E8 _ k71.1).2.2.2.2.1]; exact k74
  have k92 : OB w8 q4 12 := E8.ob k75
  have k93 : mN w8 q4 = 4 := by rw [(E8 _ k75.1).2.2.1]; exact k76
  have k94 : mR w8 193 d = some q4 := by rw [(E8 _ k71.1).2.2.2.2.1]; exact k77
  have k95 : OB w8 q7 0 := E8.ob k78
  have k96 : mR w8 1 q7 = some (G.2.2 1) := by rw [(E8 _ k78.1).2.2.2.2.1]; exact k79
  have k97 : mI w8 2 q7 = 0 := by rw [(E8 _ k78.1).2.2.2.1]; exact k80
  have k98 : mR w8 194 d = some q7 := by rw [(E8 _ k71.1).2.2.2.2.1]; exact k81
  have k99 : OB w8 q12 1 := E8.ob k82
  have k100 : mN w8 q12 = 0 := by rw [(E8 _ k82.1).2.2.1]; exact k83
  have k101 : OB w8 qa 0 := E8.ob k84
  have k102 : mR w8 1 qa = some (G.2.2 1) := by rw [(E8 _ k84.1).2.2.2.2.1]; exact k85
  have k103 : mI w8 2 qa = 0 := by rw [(E8 _ k84.1).2.2.2.1]; exact k86
  have k104 : mR w8 32 q12 = some qa := by rw [(E8 _ k82.1).2.2.2.2.1]; exact k87
  have k105 : OB w8 qb 0 := l8.1
  have k106 : mR w8 1 qb = some (G.2.2 1) := l8.2.1
  have k107 : mI w8 2 qb = 0 := l8.2.2
  refine ⟨k99, fun w10 g10 => ?_⟩
  have k108 : OB w10 d 6 := by rw [g10]; exact k88
  have k109 : OB w10 q1 11 := by rw [g10]; exact k89
  have k110 : mN w10 q1 = 8 := by rw [g10]; exact k90
  have k111 : mR w10 192 d = some q1 := by rw [g10, gR_setR, if_neg (fun z => absurd z.1 (by decide))]; exact k91
  have k112 : OB w10 q4 12 := by rw [g10]; exact k92
  have k113 : mN w10 q4 = 4 := by rw [g10]; exact k93
  have k114 : mR w10 193 d = some q4 := by rw [g10, gR_setR, if_neg (fun z => absurd z.1 (by decide))]; exact k94
  have k115 : OB w10 q7 0 := by rw [g10]; exact k95
  have k116 : mR w10 1 q7 = some (G.2.2 1) := by rw [g10, gR_setR, if_neg (fun z => absurd z.1 (by decide))]; exact k96
  have k117 : mI w10 2 q7 = 0 := by rw [g10]; exact k97
  have k118 : mR w10 194 d = some q7 := by rw [g10, gR_setR, if_neg (fun z => absurd z.1 (by decide))]; exact k98
  have k119 : OB w10 q12 1 := by rw [g10]; exact k99
  have k120 : mN w10 q12 = 0 := by rw [g10]; exact k100
  have k121 : OB w10 qa 0 := by rw [g10]; exact k101
  have k122 : mR w10 1 qa = some (G.2.2 1) := by rw [g10, gR_setR, if_neg (fun z => absurd z.1 (by decide))]; exact k102
  have k123 : mI w10 2 qa = 0 := by rw [g10]; exact k103
  have k124 : mR w10 32 q12 = some qa := by rw [g10, gR_setR, if_neg (fun z => absurd z.1 (by decide))]; exact k104
  have k125 : OB w10 qb 0 := by rw [g10]; exact k105
  have k126 : mR w10 1 qb = some (G.2.2 1) := by rw [g10, gR_setR, if_neg (fun z => absurd z.1 (by decide))]; exact k106
  have k127 : mI w10 2 qb = 0 := by rw [g10]; exact k107
  have k128 : mR w10 33 q12 = some qb := by rw [g10, gR_setR, if_pos ⟨rfl, rfl⟩]
  refine ⟨k108, fun u18 h18 => ?_⟩
  have k129 : OB u18 d 6 := by rw [h18]; exact k108
  have k130 : OB u18 q1 11 := by rw [h18]; exact k109
  have k131 : mN u18 q1 = 8 := by rw [h18]; exact k110
  have k132 : mR u18 192 d = some q1 := by rw [h18, gR_setR, if_neg (fun z => absurd z.1 (by decide))]; exact k111
  have k133 : OB u18 q4 12 := by rw [h18]; exact k112
  have k134 : mN u18 q4 = 4 := by rw [h18]; exact k113
  have k135 : mR u18 193 d = some q4 := by rw [h18, gR_setR, if_neg (fun z => absurd z.1 (by decide))]; exact k114
  have k136 : OB u18 q7 0 := by rw [h18]; exact k115
  have k137 : mR u18 1 q7 = some (G.2.2 1) := by rw [h18, gR_setR, if_neg (fun z => absurd z.1 (by decide))]; exact k116
  have k138 : mI u18 2 q7 = 0 := by rw [h18]; exact k117
  have k139 : mR u18 194 d = some q7 := by rw [h18, gR_setR, if_neg (fun z => absurd z.1 (by decide))]; exact k118
  have k140 : OB u18 q12 1 := by rw [h18]; exact k119
  have k141 : mN u18 q12 = 0 := by rw [h18]; exact k120
  have k142 : OB u18 qa 0 := by rw [h18]; exact k121
  have k143 : mR u18 1 qa = some (G.2.2 1) := by rw [h18, gR_setR, if_neg (fun z => absurd z.1 (by decide))]; exact k122
  have k144 : mI u18 2 qa = 0 := by rw [h18]; exact k123
  have k145 : mR u18 32 q12 = some qa := by rw [h18, gR_setR, if_neg (fun z => absurd z.1 (by decide))]; exact k124
  have k146 : OB u18 qb 0 := by rw [h18]; exact k125
  have k147 : mR u18 1 qb = some (G.2.2 1) := by rw [h18, gR_setR, if_neg (fun z => absurd z.1 (by decide))]; exact k126
  have k148 : mI u18 2 qb = 0 := by rw [h18]; exact k127
  have k149 : mR u18 33 q12 = some qb := by rw [h18, gR_setR, if_neg (fun z => absurd z.1 (by decide))]; exact k128
  have k150 : mR u18 195 d = some q12 := by rw [h18, gR_setR, if_pos ⟨rfl, rfl⟩]
  refine ⟨k129, fun u19 h19 => ?_⟩
  have k151 : OB u19 d 6 := by rw [h19]; exact k129
  have k152 : OB u19 q1 11 := by rw [h19]; exact k130
  have k153 : mN u19 q1 = 8 := by rw [h19]; exact k131
  have k154 : mR u19 192 d = some q1 := by rw [h19]; exact k132
  have k155 : OB u19 q4 12 := by rw [h19]; exact k133
  have k156 : mN u19 q4 = 4 := by rw [h19]; exact k134
  have k157 : mR u19 193 d = some q4 := by rw [h19]; exact k135
  have k158 : OB u19 q7 0 := by rw [h19]; exact k136
  have k159 : mR u19 1 q7 = some (G.2.2 1) := by rw [h19]; exact k137
  have k160 : mI u19 2 q7 = 0 := by rw [h19, gsn (by decide)]; exact k138
  have k161 : mR u19 194 d = some q7 := by rw [h19]; exact k139
  have k162 : OB u19 q12 1 := by rw [h19]; exact k140
  have k163 : mN u19 q12 = 0 := by rw [h19]; exact k141
  have k164 : OB u19 qa 0 := by rw [h19]; exact k142
  have k165 : mR u19 1 qa = some (G.2.2 1) := by rw [h19]; exact k143
  have k166 : mI u19 2 qa = 0 := by rw [h19, gsn (by decide)]; exact k144
  have k167 : mR u19 32 q12 = some qa := by rw [h19]; exact k145
  have k168 : OB u19 qb 0 := by rw [h19]; exact k146
  have k169 : mR u19 1 qb = some (G.2.2 1) := by rw [h19]; exact k147
  have k170 : mI u19 2 qb = 0 := by rw [h19, gsn (by decide)]; exact k148
  have k171 : mR u19 33 q12 = some qb := by rw [h19]; exact k149
  have k172 : mR u19 195 d = some q12 := by rw [h19]; exact k150
  have k173 : mI u19 196 d = 0 := by rw [h19, gse]
  refine ⟨k151, fun u20 h20 => ⟨9, ?_⟩⟩
  have k174 : OB u20 d 6 := by rw [h20]; exact k151
  have k175 : OB u20 q1 11 := by rw [h20]; exact k152
  have k176 : mN u20 q1 = 8 := by rw [h20]; exact k153
  have k177 : mR u20 192 d = some q1 := by rw [h20]; exact k154
  have k178 : OB u20 q4 12 := by rw [h20]; exact k155
  have k179 : mN u20 q4 = 4 := by rw [h20]; exact k156
  have k180 : mR u20 193 d = some q4 := by rw [h20]; exact k157
  have k181 : OB u20 q7 0 := by rw [h20]; exact k158
  have k182 : mR u20 1 q7 = some (G.2.2 1) := by rw [h20]; exact k159
  have k183 : mI u20 2 q7 = 0 := by rw [h20, gsn (by decide)]; exact k160
  have k184 : mR u20 194 d = some q7 := by rw [h20]; exact k161
  have k185 : OB u20 q12 1 := by rw [h20]; exact k162
  have k186 : mN u20 q12 = 0 := by rw [h20]; exact k163
  have k187 : OB u20 qa 0 := by rw [h20]; exact k164
  have k188 : mR u20 1 qa = some (G.2.2 1) := by rw [h20]; exact k165
  have k189 : mI u20 2 qa = 0 := by rw [h20, gsn (by decide)]; exact k166
  have k190 : mR u20 32 q12 = some qa := by rw [h20]; exact k167
  have k191 : OB u20 qb 0 := by rw [h20]; exact k168
  have k192 : mR u20 1 qb = some (G.2.2 1) := by rw [h20]; exact k169
  have k193 : mI u20 2 qb = 0 := by rw [h20, gsn (by decide)]; exact k170
  have k194 : mR u20 33 q12 = some qb := by rw [h20]; exact k171
  have k195 : mR u20 195 d = some q12 := by rw [h20]; exact k172
  have k196 : mI u20 196 d = 0 := by rw [h20, gsn (by decide)]; exact k173
  have k197 : mI u20 197 d = 0 := by rw [h20, gse]
  refine c_l55 (fun u' b r e hD hS hE => hK u' q1 q4 q7 q12 qa qb b r e hD hS hE) 8 0 _ _ (fun _ => 0) (fun _ => 0) u20 (by omega) ⟨k174, k177, k180, k184, k195, k196, k197, k175, k176, k178, k179, k185, k190, k194, ⟨k181, k182, k183⟩, ⟨k187, k188, k189⟩, ⟨k191, k192, k193⟩, ne57, ne58, ne78⟩ ⟨fun j hj => absurd hj (by omega), fun j k hj => absurd hj (by omega), fun j k hj => absurd hj (by omega)⟩ (by omega) (by omega)
theorem nd_inj : ∀ (l : List Nat) (i j : Nat), l.Nodup → i < l.length → j < l.length → l.getD i 0 = l.getD j 0 → i = j
  | [], i, j, _, hi, _, _ => absurd hi (by simp)
  | x :: l, 0, 0, _, _, _, _ => rfl
  | x :: l, 0, j + 1, hn, _, hj, e => by
    have hj2 : j < l.length := by simpa using hj
    have hm : l.getD j 0 ∈ l := by rw [List.getD_eq_getElem?_getD, List.getElem?_eq_getElem hj2]; exact List.getElem_mem hj2
    have e2 : x = l.getD j 0 := by simpa using e
    exact absurd (e2 ▸ hm) (List.nodup_cons.mp hn).1
  | x :: l, i + 1, 0, hn, hi, _, e => by
    have hi2 : i < l.length := by simpa using hi
    have hm : l.getD i 0 ∈ l := by rw [List.getD_eq_getElem?_getD, List.getElem?_eq_getElem hi2]; exact List.getElem_mem hi2
    have e2 : l.getD i 0 = x := by simpa using e
    exact absurd (e2 ▸ hm) (List.nodup_cons.mp hn).1
  | x :: l, i + 1, j + 1, hn, hi, hj, e => by
    rw [nd_inj l i j (List.nodup_cons.mp hn).2 (by simpa using hi) (by simpa using hj) (by simpa using e)]
def NDf (u0 u : Mem) (l : List Nat) : Prop := l.Nodup ∧ ∀ x, x ∈ l → x ∈ mL u ∧ x ∉ mL u0
theorem NDf_c {u0 u v : Mem} {l : List Nat} {q : Nat} (h : NDf u0 u l) (hq : q ∉ mL u) (hE : Ext u v) (hqv : q ∈ mL v) (hq0 : q ∉ mL u0) : NDf u0 v (q :: l) := by
  refine ⟨List.nodup_cons.mpr ⟨fun z => hq (h.2 q z).1, h.1⟩, fun x hx => ?_⟩
  rcases List.mem_cons.mp hx with e | e
  · rw [e]; exact ⟨hqv, hq0⟩
  · exact ⟨(hE x (h.2 x e).1).1, (h.2 x e).2⟩
end S2P
