section S2P
variable {B : Nat → Nat → Nat} {G : Ctx} {s s2 : Nat → Nat → Int32} {t : Nat → Nat → Nat} {ka : List Nat} {u : Mem}
def lst (G : Ctx) (u : Mem) (a : Nat) : Prop := OB u a 0 ∧ mR u 1 a = some (G.2.2 1) ∧ mI u 2 a = 0
def BD (G : Ctx) (d a3 a4 a5 a6 a7 a8 : Nat) (u : Mem) : Prop := OB u d 6 ∧ mR u 192 d = some a3 ∧ mR u 193 d = some a4 ∧ mR u 194 d = some a5 ∧ mR u 195 d = some a6 ∧ mI u 196 d = 0 ∧ mI u 197 d = 0 ∧ OB u a3 11 ∧ mN u a3 = 8 ∧ OB u a4 12 ∧ mN u a4 = 4 ∧ OB u a6 1 ∧ mR u 32 a6 = some a7 ∧ mR u 33 a6 = some a8 ∧ lst G u a5 ∧ lst G u a7 ∧ lst G u a8 ∧ a5 ≠ a7 ∧ a5 ≠ a8 ∧ a7 ≠ a8
def S1 (u : Mem) (b r : Nat) : Prop := OB u b 4 ∧ mI u 128 b = 0 ∧ mI u 129 b = 1 ∧ mI u 130 b = 0 ∧ mR u 131 b = some r ∧ OB u r 8 ∧ mN u r = 3 ∧ ∀ k, k < 3 → mA u r k = 7
def StB (a3 : Nat) (b r : Nat → Nat) (i : Nat) (u : Mem) : Prop := (∀ j, j < i → mB u a3 j = some (b j) ∧ S1 u (b j) (r j)) ∧ (∀ j k, j < i → k < i → b j = b k → j = k) ∧ (∀ j k, j < i → k < i → r j = r k → j = k)
def E1 (u : Mem) (e j : Nat) : Prop := OB u e 2 ∧ mI u 64 e = nI j ∧ mI u 65 e = 0 ∧ mI u 66 e = 50 ∧ mI u 67 e = 1
def EsB (a4 : Nat) (e : Nat → Nat) (i : Nat) (u : Mem) : Prop := (∀ j, j < i → mB u a4 j = some (e j) ∧ E1 u (e j) j) ∧ (∀ j k, j < i → k < i → e j = e k → j = k)
theorem lst_ext {G : Ctx} {u v : Mem} {a : Nat} (h : lst G u a) (hE : Ext u v) : lst G v a := by
  have k := hE a h.1.1
  exact ⟨hE.ob h.1, by rw [k.2.2.2.2.1]; exact h.2.1, by rw [k.2.2.2.1]; exact h.2.2⟩
theorem BD_ext {G : Ctx} {d a3 a4 a5 a6 a7 a8 : Nat} {u v : Mem} (h : BD G d a3 a4 a5 a6 a7 a8 u) (hE : Ext u v) : BD G d a3 a4 a5 a6 a7 a8 v := by
  obtain ⟨h1, h2, h3, h4, h5, h6, h7, h8, h9, h10, h11, h12, h13, h14, h15, h16, h17, h18⟩ := h
  have kd := hE d h1.1
  have k3 := hE a3 h8.1
  have k4 := hE a4 h10.1
  have k6 := hE a6 h12.1
  exact ⟨hE.ob h1, by rw [kd.2.2.2.2.1]; exact h2, by rw [kd.2.2.2.2.1]; exact h3, by rw [kd.2.2.2.2.1]; exact h4, by rw [kd.2.2.2.2.1]; exact h5, by rw [kd.2.2.2.1]; exact h6, by rw [kd.2.2.2.1]; exact h7, hE.ob h8, by rw [k3.2.2.1]; exact h9, hE.ob h10, by rw [k4.2.2.1]; exact h11, hE.ob h12, by rw [k6.2.2.2.2.1]; exact h13, by rw [k6.2.2.2.2.1]; exact h14, lst_ext h15 hE, lst_ext h16 hE, lst_ext h17 hE, h18⟩
theorem S1_ext {u v : Mem} {b r : Nat} (h : S1 u b r) (hE : Ext u v) : S1 v b r := by
  obtain ⟨h1, h2, h3, h4, h5, h6, h7, h8⟩ := h
  have kb := hE b h1.1
  have kr := hE r h6.1
  exact ⟨hE.ob h1, by rw [kb.2.2.2.1]; exact h2, by rw [kb.2.2.2.1]; exact h3, by rw [kb.2.2.2.1]; exact h4, by rw [kb.2.2.2.2.1]; exact h5, hE.ob h6, by rw [kr.2.2.1]; exact h7, fun k hk => by rw [kr.2.2.2.2.2.1]; exact h8 k hk⟩
theorem E1_ext {u v : Mem} {e j : Nat} (h : E1 u e j) (hE : Ext u v) : E1 v e j := by
  obtain ⟨h1, h2, h3, h4, h5⟩ := h
  have kb := hE e h1.1
  exact ⟨hE.ob h1, by rw [kb.2.2.2.1]; exact h2, by rw [kb.2.2.2.1]; exact h3, by rw [kb.2.2.2.1]; exact h4, by rw [kb.2.2.2.1]; exact h5⟩
theorem StB_ext {u v : Mem} {a3 i : Nat} {b r : Nat → Nat} (h : StB a3 b r i u) (h3 : a3 ∈ mL u) (hE : Ext u v) : StB a3 b r i v :=
  ⟨fun j hj => ⟨by rw [(hE a3 h3).2.2.2.2.2.2]; exact (h.1 j hj).1, S1_ext (h.1 j hj).2 hE⟩, h.2⟩
theorem EsB_ext {u v : Mem} {a4 i : Nat} {e : Nat → Nat} (h : EsB a4 e i u) (h3 : a4 ∈ mL u) (hE : Ext u v) : EsB a4 e i v :=
  ⟨fun j hj => ⟨by rw [(hE a4 h3).2.2.2.2.2.2]; exact (h.1 j hj).1, E1_ext (h.1 j hj).2 hE⟩, h.2⟩
/-- a street is made -/
theorem c_st {q mc ms : Nat} (hq : q ∉ mL u) (hmc : 1 ≤ mc) (hms : 3 ≤ ms) {K : Mem → Prop} (hK : ∀ u' r, Ext u u' → S1 u' q r → r ∉ mL u → K u') : w_X3_init G q mc ms (mNew u q 4 0) K := by
  have oq : OB (mNew u q 4 0) q 4 := gO_self
  refine ⟨oq, fun u1 h1 => ⟨by rw [h1]; exact oq, fun u2 h2 => ⟨by rw [h2, h1]; exact oq, .inl rfl, fun u3 h3 => ⟨hmc, hms, fun r hr u5 h5 => ?_⟩⟩⟩⟩
  have E3 : Ext u u3 := by rw [h3, h2, h1]; exact (((Ext.rf.new hq).setI hq _ _).setI hq _ _).setI hq _ _
  have o3 : OB u3 q 4 := by rw [h3, h2, h1]; exact oq
  have i1 : mI u3 128 q = 0 := by rw [h3, gsn (by decide), h2, gsn (by decide), h1, gse]
  have i2 : mI u3 129 q = 1 := by rw [h3, gsn (by decide), h2, gse]
  have i3 : mI u3 130 q = 0 := by rw [h3, gse]
  clear h1 h2 h3
  have hru := E3.nin hr
  have hrq : q ≠ r := fun e => hr (e ▸ o3.1)
  have o5 : OB u5 q 4 := by rw [h5]; exact gO_new hr o3
  refine ⟨o5, fun u6 h6 => ⟨4, ?_⟩⟩
  have E6 : Ext u u6 := by rw [h6, h5]; exact (E3.new hr).setR hq _ _
  have o6 : OB u6 q 4 := by rw [h6]; exact o5
  have or6 : OB u6 r 8 := by rw [h6, h5]; exact (gO_self : OB (mNew u3 r 8 3) r 8)
  have n6 : mN u6 r = 3 := by rw [h6, gN_setR, h5, gN_mNew, if_pos rfl]
  have j1 : mI u6 128 q = 0 := by rw [h6, gI_setR, h5, gI_mNew, if_neg hrq]; exact i1
  have j2 : mI u6 129 q = 1 := by rw [h6, gI_setR, h5, gI_mNew, if_neg hrq]; exact i2
  have j3 : mI u6 130 q = 0 := by rw [h6, gI_setR, h5, gI_mNew, if_neg hrq]; exact i3
  have j4 : mR u6 131 q = some r := by rw [h6, gR_setR, if_pos ⟨rfl, rfl⟩]
  clear h5 h6 i1 i2 i3 o3 o5 E3
  have v0 : vp_in (0 : Int32) 3 := vp_in_nI (n := 0) (by decide) (by decide)
  have v1 : vp_in (1 : Int32) 3 := vp_in_nI (n := 1) (by decide) (by decide)
  have v2 : vp_in (2 : Int32) 3 := vp_in_nI (n := 2) (by decide) (by decide)
  have g0 : ¬ (nI 3 ≤ (0 : Int32)) := by decide
  have g1 : ¬ (nI 3 ≤ (1 : Int32)) := by decide
  have g2 : ¬ (nI 3 ≤ (2 : Int32)) := by decide
  have g3 : nI 3 ≤ (3 : Int32) := by decide
  have t0 : (0 : Int32).toNatClampNeg = 0 := rfl
  have t1 : (1 : Int32).toNatClampNeg = 1 := rfl
  have t2 : (2 : Int32).toNatClampNeg = 2 := rfl
  have p1 : (0 : Int32) + 1 = 1 := rfl
  have p2 : (1 : Int32) + 1 = 2 := rfl
  have p3 : (2 : Int32) + 1 = 3 := rfl
  rw [wS_X3_init_28]
  refine ⟨o6, fun x hx => ⟨r, hx.trans j4, or6, ?_⟩⟩
  rw [n6]
  refine ⟨fun z => absurd z g0, fun _ => ⟨o6, fun x hx => ⟨r, hx.trans j4, or6, by rw [n6]; exact v0, fun w1 k1 => ?_⟩⟩⟩
  rw [t0] at k1
  have m1 : mR w1 131 q = some r := by rw [k1]; exact j4
  have m2 : mN w1 r = 3 := by rw [k1]; exact n6
  rw [p1, wS_X3_init_28]
  refine ⟨by rw [k1]; exact o6, fun x hx => ⟨r, hx.trans m1, by rw [k1]; exact or6, ?_⟩⟩
  rw [m2]
  refine ⟨fun z => absurd z g1, fun _ => ⟨by rw [k1]; exact o6, fun x hx => ⟨r, hx.trans m1, by rw [k1]; exact or6, by rw [m2]; exact v1, fun w2 k2 => ?_⟩⟩⟩
  rw [t1] at k2
  have m3 : mR w2 131 q = some r := by rw [k2]; exact m1
  have m4 : mN w2 r = 3 := by rw [k2]; exact m2
  rw [p2, wS_X3_init_28]
  refine ⟨by rw [k2, k1]; exact o6, fun x hx => ⟨r, hx.trans m3, by rw [k2, k1]; exact or6, ?_⟩⟩
  rw [m4]
  refine ⟨fun z => absurd z g2, fun _ => ⟨by rw [k2, k1]; exact o6, fun x hx => ⟨r, hx.trans m3, by rw [k2, k1]; exact or6, by rw [m4]; exact v2, fun w3 k3 => ?_⟩⟩⟩
  rw [t2] at k3
  have m5 : mR w3 131 q = some r := by rw [k3]; exact m3
  have m6 : mN w3 r = 3 := by rw [k3]; exact m4
  rw [p3, wS_X3_init_28]
  refine ⟨by rw [k3, k2, k1]; exact o6, fun x hx => ⟨r, hx.trans m5, by rw [k3, k2, k1]; exact or6, ?_⟩⟩
  rw [m6]
  refine ⟨fun _ => hK w3 r ?_ ⟨?_, ?_, ?_, ?_, m5, ?_, m6, fun k hk => ?_⟩ hru, fun z => absurd g3 z⟩
  · rw [k3, k2, k1]; exact ((E6.setA hru _ _).setA hru _ _).setA hru _ _
  · rw [k3, k2, k1]; exact o6
  · rw [k3, gI_setA, k2, gI_setA, k1, gI_setA]; exact j1
  · rw [k3, gI_setA, k2, gI_setA, k1, gI_setA]; exact j2
  · rw [k3, gI_setA, k2, gI_setA, k1, gI_setA]; exact j3
  · rw [k3, k2, k1]; exact or6
  · rw [k3, gA_setA]
    by_cases y2 : k = 2
    · rw [if_pos ⟨rfl, y2⟩]
    · rw [if_neg (fun e => y2 e.2), k2, gA_setA]
      by_cases y1 : k = 1
      · rw [if_pos ⟨rfl, y1⟩]
      · rw [if_neg (fun e => y1 e.2), k1, gA_setA, if_pos ⟨rfl, by omega⟩]
theorem c_es {q j : Nat} (hq : q ∉ mL u) {K : Mem → Prop} (hK : ∀ u', Ext u u' → E1 u' q j → K u') : w_X1_init G q (nI j) (mNew u q 2 0) K := by
  have oq : OB (mNew u q 2 0) q 2 := gO_self
  refine ⟨oq, fun u1 h1 => ⟨by rw [h1]; exact oq, fun u2 h2 => ⟨by rw [h2, h1]; exact oq, .inr rfl, fun u3 h3 => ⟨by rw [h3, h2, h1]; exact oq, fun u4 h4 => ?_⟩⟩⟩⟩
  refine hK u4 ?_ ⟨?_, ?_, ?_, ?_, ?_⟩
  · rw [h4, h3, h2, h1]; exact ((((Ext.rf.new hq).setI hq _ _).setI hq _ _).setI hq _ _).setI hq _ _
  · rw [h4, h3, h2, h1]; exact oq
  · rw [h4, gse]
  · rw [h4, gsn (by decide), h3, gsn (by decide), h2, gsn (by decide), h1, gse]
  · rw [h4, gsn (by decide), h3, gsn (by decide), h2, gse]
  · rw [h4, gsn (by decide), h3, gse]
end S2P
