def Ext (u v : Mem) : Prop := ∀ a, a ∈ mL u → a ∈ mL v ∧ mK v a = mK u a ∧ mN v a = mN u a ∧ (∀ f, mI v f a = mI u f a) ∧ (∀ f, mR v f a = mR u f a) ∧ (∀ i, mA v a i = mA u a i) ∧ (∀ i, mB v a i = mB u a i)
theorem Ext.rf {u : Mem} : Ext u u := fun _ h => ⟨h, rfl, rfl, fun _ => rfl, fun _ => rfl, fun _ => rfl, fun _ => rfl⟩
theorem Ext.tr {u v w : Mem} (h1 : Ext u v) (h2 : Ext v w) : Ext u w := fun a h => by
  obtain ⟨a1, a2, a3, a4, a5, a6, a7⟩ := h1 a h
  obtain ⟨b1, b2, b3, b4, b5, b6, b7⟩ := h2 a a1
  exact ⟨b1, b2.trans a2, b3.trans a3, fun f => (b4 f).trans (a4 f), fun f => (b5 f).trans (a5 f), fun i => (b6 i).trans (a6 i), fun i => (b7 i).trans (a7 i)⟩
theorem Ext.new {u v : Mem} (h1 : Ext u v) {q k n : Nat} (hq : q ∉ mL v) : Ext u (mNew v q k n) := h1.tr (fun a h => by
  have hn : a ≠ q := fun e => hq (e ▸ h)
  refine ⟨List.mem_append_left _ h, ?_, ?_, fun f => ?_, fun f => ?_, fun i => ?_, fun i => ?_⟩ <;> simp [gK_mNew, gN_mNew, gI_mNew, gR_mNew, gA_mNew, gB_mNew, hn])
theorem Ext.setI {u v : Mem} (h1 : Ext u v) {q : Nat} (hq : q ∉ mL u) (f : Nat) (x : Int32) : Ext u (setI v f q x) := fun a h => by
  obtain ⟨a1, a2, a3, a4, a5, a6, a7⟩ := h1 a h
  have hn : a ≠ q := fun e => hq (e ▸ h)
  exact ⟨a1, a2, a3, fun g => by rw [gI_setI, if_neg (fun e => hn e.2)]; exact a4 g, a5, a6, a7⟩
theorem Ext.setR {u v : Mem} (h1 : Ext u v) {q : Nat} (hq : q ∉ mL u) (f : Nat) (x : Option Nat) : Ext u (setR v f q x) := fun a h => by
  obtain ⟨a1, a2, a3, a4, a5, a6, a7⟩ := h1 a h
  have hn : a ≠ q := fun e => hq (e ▸ h)
  exact ⟨a1, a2, a3, a4, fun g => by rw [gR_setR, if_neg (fun e => hn e.2)]; exact a5 g, a6, a7⟩
theorem Ext.setA {u v : Mem} (h1 : Ext u v) {q : Nat} (hq : q ∉ mL u) (j : Nat) (x : Int32) : Ext u (setA v q j x) := fun a h => by
  obtain ⟨a1, a2, a3, a4, a5, a6, a7⟩ := h1 a h
  have hn : a ≠ q := fun e => hq (e ▸ h)
  exact ⟨a1, a2, a3, a4, a5, fun g => by rw [gA_setA, if_neg (fun e => hn e.1)]; exact a6 g, a7⟩
theorem Ext.setB {u v : Mem} (h1 : Ext u v) {q : Nat} (hq : q ∉ mL u) (j : Nat) (x : Option Nat) : Ext u (setB v q j x) := fun a h => by
  obtain ⟨a1, a2, a3, a4, a5, a6, a7⟩ := h1 a h
  have hn : a ≠ q := fun e => hq (e ▸ h)
  exact ⟨a1, a2, a3, a4, a5, a6, fun g => by rw [gB_setB, if_neg (fun e => hn e.1)]; exact a7 g⟩
theorem Ext.setC {u v : Mem} (h1 : Ext u v) {q : Nat} (hq : q ∉ mL u) (x : Nat → Option Nat) : Ext u (setC v q x) := fun a h => by
  obtain ⟨a1, a2, a3, a4, a5, a6, a7⟩ := h1 a h
  have hn : a ≠ q := fun e => hq (e ▸ h)
  exact ⟨a1, a2, a3, a4, a5, a6, fun g => by rw [gB_setC, if_neg hn]; exact a7 g⟩
theorem Ext.ob {u v : Mem} (h : Ext u v) {a k : Nat} (ho : OB u a k) : OB v a k := ⟨(h a ho.1).1, (h a ho.1).2.1.trans ho.2⟩
theorem Ext.nin {u v : Mem} (h : Ext u v) {q : Nat} (hq : q ∉ mL v) : q ∉ mL u := fun z => hq (h q z).1
theorem Ls_ext {G : Ctx} {u v : Mem} {a arr cap n : Nat} {f : Nat → Nat} (h : Ls G u a arr cap n f) (hE : Ext u v) : Ls G v a arr cap n f := by
  obtain ⟨h1, h2, h3, h4, h5, h6, h7⟩ := h
  refine ⟨hE.ob h1, ((hE a h1.1).2.2.2.2.1 1).trans h2, ((hE a h1.1).2.2.2.1 2).trans h3, ?_, h5, h6, fun i hi => ?_⟩
  · rcases h4 with h4 | ⟨g1, g2, g3⟩
    · exact Or.inl h4
    · exact Or.inr ⟨g1, hE.ob g2, (hE arr g2.1).2.2.1.trans g3⟩
  · rcases h4 with ⟨h4, -⟩ | ⟨g1, g2, g3⟩
    · omega
    · exact ((hE arr g2.1).2.2.2.2.2.2 i).trans (h7 i hi)
section S2E
variable {B : Nat → Nat → Nat} {G : Ctx} {s s2 : Nat → Nat → Int32} {t : Nat → Nat → Nat} {ka : List Nat} {u : Mem}
theorem S_ext (h : S2 B G s t ka s2 u) {v : Mem} (hE : Ext u v) : S2 B G s t ka s2 v := by
  obtain ⟨hd, hs, he, hw, hp, h0, h1, h2, hm, ho, hx, hB⟩ := h
  refine ⟨?_, ?_, ?_, ?_, ?_, Ls_ext h0 hE, Ls_ext h1 hE, Ls_ext h2 hE, ?_, ?_, hx, hB⟩
  · obtain ⟨d1, d2, d3, d4, d5, d6, d7, d8, d9, d10, d11, d12, d13, d14, d15, d16⟩ := hd
    have e0 := hE _ d1.1
    have e3 := hE _ d8.1
    have e4 := hE _ d11.1
    have e6 := hE _ d14.1
    exact ⟨hE.ob d1, (e0.2.2.2.2.1 _).trans d2, (e0.2.2.2.2.1 _).trans d3, (e0.2.2.2.2.1 _).trans d4, (e0.2.2.2.2.1 _).trans d5, (e0.2.2.2.1 _).trans d6, (e0.2.2.2.1 _).trans d7, hE.ob d8, e3.2.2.1.trans d9, fun i hi => (e3.2.2.2.2.2.2 i).trans (d10 i hi), hE.ob d11, e4.2.2.1.trans d12, fun i hi => (e4.2.2.2.2.2.2 i).trans (d13 i hi), hE.ob d14, (e6.2.2.2.2.1 _).trans d15, (e6.2.2.2.2.1 _).trans d16⟩
  · intro i hi
    obtain ⟨b1, b2, b3, b4, b5, b6, b7, b8⟩ := hs i hi
    have e0 := hE _ b1.1
    have e1 := hE _ b6.1
    exact ⟨hE.ob b1, (e0.2.2.2.1 _).trans b2, (e0.2.2.2.1 _).trans b3, (e0.2.2.2.1 _).trans b4, (e0.2.2.2.2.1 _).trans b5, hE.ob b6, e1.2.2.1.trans b7, fun j hj => (e1.2.2.2.2.2.1 j).trans (b8 j hj)⟩
  · intro i hi
    obtain ⟨b1, b2, b3, b4, b5⟩ := he i hi
    have e0 := hE _ b1.1
    exact ⟨hE.ob b1, (e0.2.2.2.1 _).trans b2, (e0.2.2.2.1 _).trans b3, (e0.2.2.2.1 _).trans b4, (e0.2.2.2.1 _).trans b5⟩
  · intro i hi
    obtain ⟨b1, b2, b3, b4, b5, b6, b7, b8⟩ := hw i hi
    have e0 := hE _ b1.1
    exact ⟨hE.ob b1, (e0.2.2.2.1 _).trans b2, (e0.2.2.2.1 _).trans b3, (e0.2.2.2.1 _).trans b4, (e0.2.2.2.1 _).trans b5, (e0.2.2.2.2.1 _).trans b6, (e0.2.2.2.1 _).trans b7, (e0.2.2.2.1 _).trans b8⟩
  · intro i hi
    obtain ⟨b1, b2, b3, b4, b5⟩ := hp i hi
    have e0 := hE _ b1.1
    exact ⟨hE.ob b1, (e0.2.2.2.1 _).trans b2, (e0.2.2.2.1 _).trans b3, (e0.2.2.2.1 _).trans b4, (e0.2.2.2.1 _).trans b5⟩
  · intro k hk
    obtain ⟨a2, a3, a4⟩ := hm k hk
    have e1 := hE _ a2.1
    exact ⟨hE.ob a2, e1.2.2.1.trans a3, fun i hi => (e1.2.2.2.2.2.1 i).trans (a4 i hi)⟩
  · exact ⟨hE.ob ho.1, hE.ob ho.2⟩
def tu (t : Nat → Nat → Nat) (k i v : Nat) : Nat → Nat → Nat := fun k2 i2 => if k2 = k ∧ i2 = i then v else t k2 i2
theorem tu_at (t : Nat → Nat → Nat) (k i v k2 i2 : Nat) : tu t k i v k2 i2 = if k2 = k ∧ i2 = i then v else t k2 i2 := rfl

theorem S_grow0 (h : S2 B G s t ka s2 u) {q N : Nat} (hq : OB u q 13) (hN : mN u q = N) (h0N : 10 ≤ N) (hN2 : N ≤ 1000) (hn : t 3 0 ≤ N) (hc : ∀ i, i < t 3 0 → mB u q i = mB u (t 4 0) i) (hx1 : t 5 1 ≠ 0 → q ≠ t 4 1) (hx2 : t 5 2 ≠ 0 → q ≠ t 4 2) : S2 B G s (tu (tu t 4 0 q) 5 0 N) ka s2 (setR u 1 (B 0 5) (some q)) := by
  obtain ⟨hd, hs, he, hw, hp, h0, h1, h2, hm, ho, hx, hB⟩ := h
  have hne : ∀ {a : Nat}, B 0 5 ≠ a → True := fun _ => trivial
  obtain ⟨b1, b2, b3, b4, b5, b57, b58, b78⟩ := hB
  refine ⟨?_, ?_, ?_, ?_, ?_, ?_, ?_, ?_, ?_, ?_, ?_, ⟨b1, b2, b3, b4, b5, b57, b58, b78⟩⟩
  · simpa [Sd, tu_at, gL_setI, gK_setI, gI_setI, gR_setI, gN_setI, gA_setI, gB_setI, gJ_setI, gO_setI, gL_setR, gK_setR, gI_setR, gR_setR, gN_setR, gA_setR, gB_setR, gJ_setR, gO_setR, gL_setA, gK_setA, gI_setA, gR_setA, gN_setA, gA_setA, gB_setA, gJ_setA, gO_setA, gL_setB, gK_setB, gI_setB, gR_setB, gN_setB, gA_setB, gB_setB, gJ_setB, gO_setB, gL_setJ, gK_setJ, gI_setJ, gR_setJ, gN_setJ, gA_setJ, gB_setJ, gJ_setJ, gO_setJ, gL_setC, gK_setC, gI_setC, gR_setC, gN_setC, gA_setC, gB_setC, gJ_setC, gO_setC, gK_mNew, gI_mNew, gR_mNew, gN_mNew, gA_mNew, gB_mNew, gJ_mNew] using hd
  · simpa [Ss, tu_at, gL_setI, gK_setI, gI_setI, gR_setI, gN_setI, gA_setI, gB_setI, gJ_setI, gO_setI, gL_setR, gK_setR, gI_setR, gR_setR, gN_setR, gA_setR, gB_setR, gJ_setR, gO_setR, gL_setA, gK_setA, gI_setA, gR_setA, gN_setA, gA_setA, gB_setA, gJ_setA, gO_setA, gL_setB, gK_setB, gI_setB, gR_setB, gN_setB, gA_setB, gB_setB, gJ_setB, gO_setB, gL_setJ, gK_setJ, gI_setJ, gR_setJ, gN_setJ, gA_setJ, gB_setJ, gJ_setJ, gO_setJ, gL_setC, gK_setC, gI_setC, gR_setC, gN_setC, gA_setC, gB_setC, gJ_setC, gO_setC, gK_mNew, gI_mNew, gR_mNew, gN_mNew, gA_mNew, gB_mNew, gJ_mNew] using hs
  · simpa [Se, tu_at, gL_setI, gK_setI, gI_setI, gR_setI, gN_setI, gA_setI, gB_setI, gJ_setI, gO_setI, gL_setR, gK_setR, gI_setR, gR_setR, gN_setR, gA_setR, gB_setR, gJ_setR, gO_setR, gL_setA, gK_setA, gI_setA, gR_setA, gN_setA, gA_setA, gB_setA, gJ_setA, gO_setA, gL_setB, gK_setB, gI_setB, gR_setB, gN_setB, gA_setB, gB_setB, gJ_setB, gO_setB, gL_setJ, gK_setJ, gI_setJ, gR_setJ, gN_setJ, gA_setJ, gB_setJ, gJ_setJ, gO_setJ, gL_setC, gK_setC, gI_setC, gR_setC, gN_setC, gA_setC, gB_setC, gJ_setC, gO_setC, gK_mNew, gI_mNew, gR_mNew, gN_mNew, gA_mNew, gB_mNew, gJ_mNew] using he
  · simpa [Sw, tu_at, gL_setI, gK_setI, gI_setI, gR_setI, gN_setI, gA_setI, gB_setI, gJ_setI, gO_setI, gL_setR, gK_setR, gI_setR, gR_setR, gN_setR, gA_setR, gB_setR, gJ_setR, gO_setR, gL_setA, gK_setA, gI_setA, gR_setA, gN_setA, gA_setA, gB_setA, gJ_setA, gO_setA, gL_setB, gK_setB, gI_setB, gR_setB, gN_setB, gA_setB, gB_setB, gJ_setB, gO_setB, gL_setJ, gK_setJ, gI_setJ, gR_setJ, gN_setJ, gA_setJ, gB_setJ, gJ_setJ, gO_setJ, gL_setC, gK_setC, gI_setC, gR_setC, gN_setC, gA_setC, gB_setC, gJ_setC, gO_setC, gK_mNew, gI_mNew, gR_mNew, gN_mNew, gA_mNew, gB_mNew, gJ_mNew] using hw
  · simpa [Sp, tu_at, gL_setI, gK_setI, gI_setI, gR_setI, gN_setI, gA_setI, gB_setI, gJ_setI, gO_setI, gL_setR, gK_setR, gI_setR, gR_setR, gN_setR, gA_setR, gB_setR, gJ_setR, gO_setR, gL_setA, gK_setA, gI_setA, gR_setA, gN_setA, gA_setA, gB_setA, gJ_setA, gO_setA, gL_setB, gK_setB, gI_setB, gR_setB, gN_setB, gA_setB, gB_setB, gJ_setB, gO_setB, gL_setJ, gK_setJ, gI_setJ, gR_setJ, gN_setJ, gA_setJ, gB_setJ, gJ_setJ, gO_setJ, gL_setC, gK_setC, gI_setC, gR_setC, gN_setC, gA_setC, gB_setC, gJ_setC, gO_setC, gK_mNew, gI_mNew, gR_mNew, gN_mNew, gA_mNew, gB_mNew, gJ_mNew] using hp
  · obtain ⟨l1, l2, l3, l4, l5, l6, l7⟩ := h0
    refine ⟨l1, by simp [gR_setR, tu_at], l3, ?_, ?_, ?_, fun i hi => ?_⟩
    · right; simp [tu_at, gO_setR, gN_setR, hq, hN, h0N]
    · simpa [tu_at] using hn
    · simpa [tu_at] using hN2
    · have hi : i < t 3 0 := by simpa [tu_at] using hi
      simp [tu_at, gB_setR, hc i hi, l7 i hi]
  · obtain ⟨l1, l2, l3, l4, l5, l6, l7⟩ := h1
    have hne : B 0 7 ≠ B 0 5 := Ne.symm b57
    refine ⟨l1, by simp [gR_setR, tu_at, hne, l2], l3, by simpa [tu_at, gO_setR, gN_setR] using l4, by simpa [tu_at] using l5, by simpa [tu_at] using l6, fun i hi => ?_⟩
    have hi : i < t 3 1 := by simpa [tu_at] using hi
    simpa [tu_at, gB_setR] using l7 i hi
  · obtain ⟨l1, l2, l3, l4, l5, l6, l7⟩ := h2
    have hne : B 0 8 ≠ B 0 5 := Ne.symm b58
    refine ⟨l1, by simp [gR_setR, tu_at, hne, l2], l3, by simpa [tu_at, gO_setR, gN_setR] using l4, by simpa [tu_at] using l5, by simpa [tu_at] using l6, fun i hi => ?_⟩
    have hi : i < ka.length := by simpa [tu_at] using hi
    simpa [tu_at, gB_setR] using l7 i hi
  · exact hm
  · exact ho
  · obtain ⟨x1, x2, x3, x4, x5, x6⟩ := hx
    exact ⟨by simpa [tu_at] using x1, by simpa [tu_at] using x2, by simp only [tu_at]; intro _ hb; simpa using hx1 (by simpa [tu_at] using hb), by simp only [tu_at]; intro _ hb; simpa using hx2 (by simpa [tu_at] using hb), by simpa [tu_at] using x5, by simpa [tu_at] using x6⟩
theorem S_put0 (h : S2 B G s t ka s2 u) (hn : t 3 0 < t 5 0) (v : Option Nat) : S2 B G s t ka s2 (setB u (t 4 0) (t 3 0) v) := by
  obtain ⟨hd, hs, he, hw, hp, h0, h1, h2, hm, ho, hx, hB⟩ := h
  have hcap : t 5 0 ≠ 0 := by omega
  have hq : OB u (t 4 0) 13 := by
    rcases h0.2.2.2.1 with ⟨z, _⟩ | ⟨_, z, _⟩
    · exact absurd z hcap
    · exact z
  have hx0 := hx
  obtain ⟨x1, x2, x3, x4, x5, x6⟩ := hx0
  refine ⟨?_, ?_, ?_, ?_, ?_, ?_, ?_, ?_, ?_, ?_, hx, hB⟩
  · obtain ⟨d1, d2, d3, d4, d5, d6, d7, d8, d9, d10, d11, d12, d13, d14, d15, d16⟩ := hd
    refine ⟨d1, d2, d3, d4, d5, d6, d7, d8, d9, fun i hi => ?_, d11, d12, fun i hi => ?_, d14, d15, d16⟩
    · rw [gB_setB, if_neg (fun e => ob_ne d8 hq (by decide) e.1)]; exact d10 i hi
    · rw [gB_setB, if_neg (fun e => ob_ne d11 hq (by decide) e.1)]; exact d13 i hi
  · exact hs
  · exact he
  · exact hw
  · exact hp
  · obtain ⟨l1, l2, l3, l4, l5, l6, l7⟩ := h0
    exact ⟨l1, l2, l3, l4, l5, l6, fun i hi => by rw [gB_setB, if_neg (fun e => by omega)]; exact l7 i hi⟩
  · obtain ⟨l1, l2, l3, l4, l5, l6, l7⟩ := h1
    exact ⟨l1, l2, l3, l4, l5, l6, fun i hi => by rw [gB_setB, if_neg (fun e => x3 (by omega) (by omega) e.1.symm)]; exact l7 i hi⟩
  · obtain ⟨l1, l2, l3, l4, l5, l6, l7⟩ := h2
    exact ⟨l1, l2, l3, l4, l5, l6, fun i hi => by rw [gB_setB, if_neg (fun e => x4 (by omega) (by omega) e.1.symm)]; exact l7 i hi⟩
  · exact hm
  · exact ho
theorem S_grow1 (h : S2 B G s t ka s2 u) {q N : Nat} (hq : OB u q 13) (hN : mN u q = N) (h0N : 10 ≤ N) (hN2 : N ≤ 1000) (hn : t 3 1 ≤ N) (hc : ∀ i, i < t 3 1 → mB u q i = mB u (t 4 1) i) (hx0 : t 5 0 ≠ 0 → q ≠ t 4 0) (hx2 : t 5 2 ≠ 0 → q ≠ t 4 2) : S2 B G s (tu (tu t 4 1 q) 5 1 N) ka s2 (setR u 1 (B 0 7) (some q)) := by
  obtain ⟨hd, hs, he, hw, hp, h0, h1, h2, hm, ho, hx, hB⟩ := h
  have hne : ∀ {a : Nat}, B 0 5 ≠ a → True := fun _ => trivial
  obtain ⟨b1, b2, b3, b4, b5, b57, b58, b78⟩ := hB
  refine ⟨?_, ?_, ?_, ?_, ?_, ?_, ?_, ?_, ?_, ?_, ?_, ⟨b1, b2, b3, b4, b5, b57, b58, b78⟩⟩
  · simpa [Sd, tu_at, gL_setI, gK_setI, gI_setI, gR_setI, gN_setI, gA_setI, gB_setI, gJ_setI, gO_setI, gL_setR, gK_setR, gI_setR, gR_setR, gN_setR, gA_setR, gB_setR, gJ_setR, gO_setR, gL_setA, gK_setA, gI_setA, gR_setA, gN_setA, gA_setA, gB_setA, gJ_setA, gO_setA, gL_setB, gK_setB, gI_setB, gR_setB, gN_setB, gA_setB, gB_setB, gJ_setB, gO_setB, gL_setJ, gK_setJ, gI_setJ, gR_setJ, gN_setJ, gA_setJ, gB_setJ, gJ_setJ, gO_setJ, gL_setC, gK_setC, gI_setC, gR_setC, gN_setC, gA_setC, gB_setC, gJ_setC, gO_setC, gK_mNew, gI_mNew, gR_mNew, gN_mNew, gA_mNew, gB_mNew, gJ_mNew] using hd
  · simpa [Ss, tu_at, gL_setI, gK_setI, gI_setI, gR_setI, gN_setI, gA_setI, gB_setI, gJ_setI, gO_setI, gL_setR, gK_setR, gI_setR, gR_setR, gN_setR, gA_setR, gB_setR, gJ_setR, gO_setR, gL_setA, gK_setA, gI_setA, gR_setA, gN_setA, gA_setA, gB_setA, gJ_setA, gO_setA, gL_setB, gK_setB, gI_setB, gR_setB, gN_setB, gA_setB, gB_setB, gJ_setB, gO_setB, gL_setJ, gK_setJ, gI_setJ, gR_setJ, gN_setJ, gA_setJ, gB_setJ, gJ_setJ, gO_setJ, gL_setC, gK_setC, gI_setC, gR_setC, gN_setC, gA_setC, gB_setC, gJ_setC, gO_setC, gK_mNew, gI_mNew, gR_mNew, gN_mNew, gA_mNew, gB_mNew, gJ_mNew] using hs
  · simpa [Se, tu_at, gL_setI, gK_setI, gI_setI, gR_setI, gN_setI, gA_setI, gB_setI, gJ_setI, gO_setI, gL_setR, gK_setR, gI_setR, gR_setR, gN_setR, gA_setR, gB_setR, gJ_setR, gO_setR, gL_setA, gK_setA, gI_setA, gR_setA, gN_setA, gA_setA, gB_setA, gJ_setA, gO_setA, gL_setB, gK_setB, gI_setB, gR_setB, gN_setB, gA_setB, gB_setB, gJ_setB, gO_setB, gL_setJ, gK_setJ, gI_setJ, gR_setJ, gN_setJ, gA_setJ, gB_setJ, gJ_setJ, gO_setJ, gL_setC, gK_setC, gI_setC, gR_setC, gN_setC, gA_setC, gB_setC, gJ_setC, gO_setC, gK_mNew, gI_mNew, gR_mNew, gN_mNew, gA_mNew, gB_mNew, gJ_mNew] using he
  · simpa [Sw, tu_at, gL_setI, gK_setI, gI_setI, gR_setI, gN_setI, gA_setI, gB_setI, gJ_setI, gO_setI, gL_setR, gK_setR, gI_setR, gR_setR, gN_setR, gA_setR, gB_setR, gJ_setR, gO_setR, gL_setA, gK_setA, gI_setA, gR_setA, gN_setA, gA_setA, gB_setA, gJ_setA, gO_setA, gL_setB, gK_setB, gI_setB, gR_setB, gN_setB, gA_setB, gB_setB, gJ_setB, gO_setB, gL_setJ, gK_setJ, gI_setJ, gR_setJ, gN_setJ, gA_setJ, gB_setJ, gJ_setJ, gO_setJ, gL_setC, gK_setC, gI_setC, gR_setC, gN_setC, gA_setC, gB_setC, gJ_setC, gO_setC, gK_mNew, gI_mNew, gR_mNew, gN_mNew, gA_mNew, gB_mNew, gJ_mNew] using hw
  · simpa [Sp, tu_at, gL_setI, gK_setI, gI_setI, gR_setI, gN_setI, gA_setI, gB_setI, gJ_setI, gO_setI, gL_setR, gK_setR, gI_setR, gR_setR, gN_setR, gA_setR, gB_setR, gJ_setR, gO_setR, gL_setA, gK_setA, gI_setA, gR_setA, gN_setA, gA_setA, gB_setA, gJ_setA, gO_setA, gL_setB, gK_setB, gI_setB, gR_setB, gN_setB, gA_setB, gB_setB, gJ_setB, gO_setB, gL_setJ, gK_setJ, gI_setJ, gR_setJ, gN_setJ, gA_setJ, gB_setJ, gJ_setJ, gO_setJ, gL_setC, gK_setC, gI_setC, gR_setC, gN_setC, gA_setC, gB_setC, gJ_setC, gO_setC, gK_mNew, gI_mNew, gR_mNew, gN_mNew, gA_mNew, gB_mNew, gJ_mNew] using hp
  · obtain ⟨l1, l2, l3, l4, l5, l6, l7⟩ := h0
    have hne : B 0 5 ≠ B 0 7 := b57
    refine ⟨l1, by simp [gR_setR, tu_at, hne, l2], l3, by simpa [tu_at, gO_setR, gN_setR] using l4, by simpa [tu_at] using l5, by simpa [tu_at] using l6, fun i hi => ?_⟩
    have hi : i < t 3 0 := by simpa [tu_at] using hi
    simpa [tu_at, gB_setR] using l7 i hi
  · obtain ⟨l1, l2, l3, l4, l5, l6, l7⟩ := h1
    refine ⟨l1, by simp [gR_setR, tu_at], l3, ?_, ?_, ?_, fun i hi => ?_⟩
    · right; simp [tu_at, gO_setR, gN_setR, hq, hN, h0N]
    · simpa [tu_at] using hn
    · simpa [tu_at] using hN2
    · have hi : i < t 3 1 := by simpa [tu_at] using hi
      simp [tu_at, gB_setR, hc i hi, l7 i hi]
  · obtain ⟨l1, l2, l3, l4, l5, l6, l7⟩ := h2
    have hne : B 0 8 ≠ B 0 7 := Ne.symm b78
    refine ⟨l1, by simp [gR_setR, tu_at, hne, l2], l3, by simpa [tu_at, gO_setR, gN_setR] using l4, by simpa [tu_at] using l5, by simpa [tu_at] using l6, fun i hi => ?_⟩
    have hi : i < ka.length := by simpa [tu_at] using hi
    simpa [tu_at, gB_setR] using l7 i hi
  · exact hm
  · exact ho
  · obtain ⟨x1, x2, x3, x4, x5, x6⟩ := hx
    exact ⟨by simpa [tu_at] using x1, by simpa [tu_at] using x2, by simp only [tu_at]; intro ha _; simpa using Ne.symm (hx0 (by simpa [tu_at] using ha)), by simpa [tu_at] using x4, by simp only [tu_at]; intro _ hb; simpa using hx2 (by simpa [tu_at] using hb), by simpa [tu_at] using x6⟩
theorem S_put1 (h : S2 B G s t ka s2 u) (hn : t 3 1 < t 5 1) (v : Option Nat) : S2 B G s t ka s2 (setB u (t 4 1) (t 3 1) v) := by
  obtain ⟨hd, hs, he, hw, hp, h0, h1, h2, hm, ho, hx, hB⟩ := h
  have hcap : t 5 1 ≠ 0 := by omega
  have hq : OB u (t 4 1) 13 := by
    rcases h1.2.2.2.1 with ⟨z, _⟩ | ⟨_, z, _⟩
    · exact absurd z hcap
    · exact z
  have hx0 := hx
  obtain ⟨x1, x2, x3, x4, x5, x6⟩ := hx0
  refine ⟨?_, ?_, ?_, ?_, ?_, ?_, ?_, ?_, ?_, ?_, hx, hB⟩
  · obtain ⟨d1, d2, d3, d4, d5, d6, d7, d8, d9, d10, d11, d12, d13, d14, d15, d16⟩ := hd
    refine ⟨d1, d2, d3, d4, d5, d6, d7, d8, d9, fun i hi => ?_, d11, d12, fun i hi => ?_, d14, d15, d16⟩
    · rw [gB_setB, if_neg (fun e => ob_ne d8 hq (by decide) e.1)]; exact d10 i hi
    · rw [gB_setB, if_neg (fun e => ob_ne d11 hq (by decide) e.1)]; exact d13 i hi
  · exact hs
  · exact he
  · exact hw
  · exact hp
  · obtain ⟨l1, l2, l3, l4, l5, l6, l7⟩ := h0
    exact ⟨l1, l2, l3, l4, l5, l6, fun i hi => by rw [gB_setB, if_neg (fun e => x3 (by omega) (by omega) e.1)]; exact l7 i hi⟩
  · obtain ⟨l1, l2, l3, l4, l5, l6, l7⟩ := h1
    exact ⟨l1, l2, l3, l4, l5, l6, fun i hi => by rw [gB_setB, if_neg (fun e => by omega)]; exact l7 i hi⟩
  · obtain ⟨l1, l2, l3, l4, l5, l6, l7⟩ := h2
    exact ⟨l1, l2, l3, l4, l5, l6, fun i hi => by rw [gB_setB, if_neg (fun e => x5 (by omega) (by omega) e.1.symm)]; exact l7 i hi⟩
  · exact hm
  · exact ho
theorem S_grow2 (h : S2 B G s t ka s2 u) {q N : Nat} (hq : OB u q 13) (hN : mN u q = N) (h0N : 10 ≤ N) (hN2 : N ≤ 1000) (hn : ka.length ≤ N) (hc : ∀ i, i < ka.length → mB u q i = mB u (t 4 2) i) (hx0 : t 5 0 ≠ 0 → q ≠ t 4 0) (hx1 : t 5 1 ≠ 0 → q ≠ t 4 1) : S2 B G s (tu (tu t 4 2 q) 5 2 N) ka s2 (setR u 1 (B 0 8) (some q)) := by
  obtain ⟨hd, hs, he, hw, hp, h0, h1, h2, hm, ho, hx, hB⟩ := h
  have hne : ∀ {a : Nat}, B 0 5 ≠ a → True := fun _ => trivial
  obtain ⟨b1, b2, b3, b4, b5, b57, b58, b78⟩ := hB
  refine ⟨?_, ?_, ?_, ?_, ?_, ?_, ?_, ?_, ?_, ?_, ?_, ⟨b1, b2, b3, b4, b5, b57, b58, b78⟩⟩
  · simpa [Sd, tu_at, gL_setI, gK_setI, gI_setI, gR_setI, gN_setI, gA_setI, gB_setI, gJ_setI, gO_setI, gL_setR, gK_setR, gI_setR, gR_setR, gN_setR, gA_setR, gB_setR, gJ_setR, gO_setR, gL_setA, gK_setA, gI_setA, gR_setA, gN_setA, gA_setA, gB_setA, gJ_setA, gO_setA, gL_setB, gK_setB, gI_setB, gR_setB, gN_setB, gA_setB, gB_setB, gJ_setB, gO_setB, gL_setJ, gK_setJ, gI_setJ, gR_setJ, gN_setJ, gA_setJ, gB_setJ, gJ_setJ, gO_setJ, gL_setC, gK_setC, gI_setC, gR_setC, gN_setC, gA_setC, gB_setC, gJ_setC, gO_setC, gK_mNew, gI_mNew, gR_mNew, gN_mNew, gA_mNew, gB_mNew, gJ_mNew] using hd
  · simpa [Ss, tu_at, gL_setI, gK_setI, gI_setI, gR_setI, gN_setI, gA_setI, gB_setI, gJ_setI, gO_setI, gL_setR, gK_setR, gI_setR, gR_setR, gN_setR, gA_setR, gB_setR, gJ_setR, gO_setR, gL_setA, gK_setA, gI_setA, gR_setA, gN_setA, gA_setA, gB_setA, gJ_setA, gO_setA, gL_setB, gK_setB, gI_setB, gR_setB, gN_setB, gA_setB, gB_setB, gJ_setB, gO_setB, gL_setJ, gK_setJ, gI_setJ, gR_setJ, gN_setJ, gA_setJ, gB_setJ, gJ_setJ, gO_setJ, gL_setC, gK_setC, gI_setC, gR_setC, gN_setC, gA_setC, gB_setC, gJ_setC, gO_setC, gK_mNew, gI_mNew, gR_mNew, gN_mNew, gA_mNew, gB_mNew, gJ_mNew] using hs
  · simpa [Se, tu_at, gL_setI, gK_setI, gI_setI, gR_setI, gN_setI, gA_setI, gB_setI, gJ_setI, gO_setI, gL_setR, gK_setR, gI_setR, gR_setR, gN_setR, gA_setR, gB_setR, gJ_setR, gO_setR, gL_setA, gK_setA, gI_setA, gR_setA, gN_setA, gA_setA, gB_setA, gJ_setA, gO_setA, gL_setB, gK_setB, gI_setB, gR_setB, gN_setB, gA_setB, gB_setB, gJ_setB, gO_setB, gL_setJ, gK_setJ, gI_setJ, gR_setJ, gN_setJ, gA_setJ, gB_setJ, gJ_setJ, gO_setJ, gL_setC, gK_setC, gI_setC, gR_setC, gN_setC, gA_setC, gB_setC, gJ_setC, gO_setC, gK_mNew, gI_mNew, gR_mNew, gN_mNew, gA_mNew, gB_mNew, gJ_mNew] using he
  · simpa [Sw, tu_at, gL_setI, gK_setI, gI_setI, gR_setI, gN_setI, gA_setI, gB_setI, gJ_setI, gO_setI, gL_setR, gK_setR, gI_setR, gR_setR, gN_setR, gA_setR, gB_setR, gJ_setR, gO_setR, gL_setA, gK_setA, gI_setA, gR_setA, gN_setA, gA_setA, gB_setA, gJ_setA, gO_setA, gL_setB, gK_setB, gI_setB, gR_setB, gN_setB, gA_setB, gB_setB, gJ_setB, gO_setB, gL_setJ, gK_setJ, gI_setJ, gR_setJ, gN_setJ, gA_setJ, gB_setJ, gJ_setJ, gO_setJ, gL_setC, gK_setC, gI_setC, gR_setC, gN_setC, gA_setC, gB_setC, gJ_setC, gO_setC, gK_mNew, gI_mNew, gR_mNew, gN_mNew, gA_mNew, gB_mNew, gJ_mNew] using hw
  · simpa [Sp, tu_at, gL_setI, gK_setI, gI_setI, gR_setI, gN_setI, gA_setI, gB_setI, gJ_setI, gO_setI, gL_setR, gK_setR, gI_setR, gR_setR, gN_setR, gA_setR, gB_setR, gJ_setR, gO_setR, gL_setA, gK_setA, gI_setA, gR_setA, gN_setA, gA_setA, gB_setA, gJ_setA, gO_setA, gL_setB, gK_setB, gI_setB, gR_setB, gN_setB, gA_setB, gB_setB, gJ_setB, gO_setB, gL_setJ, gK_setJ, gI_setJ, gR_setJ, gN_setJ, gA_setJ, gB_setJ, gJ_setJ, gO_setJ, gL_setC, gK_setC, gI_setC, gR_setC, gN_setC, gA_setC, gB_setC, gJ_setC, gO_setC, gK_mNew, gI_mNew, gR_mNew, gN_mNew, gA_mNew, gB_mNew, gJ_mNew] using hp
  · obtain ⟨l1, l2, l3, l4, l5, l6, l7⟩ := h0
    have hne : B 0 5 ≠ B 0 8 := b58
    refine ⟨l1, by simp [gR_setR, tu_at, hne, l2], l3, by simpa [tu_at, gO_setR, gN_setR] using l4, by simpa [tu_at] using l5, by simpa [tu_at] using l6, fun i hi => ?_⟩
    have hi : i < t 3 0 := by simpa [tu_at] using hi
    simpa [tu_at, gB_setR] using l7 i hi
  · obtain ⟨l1, l2, l3, l4, l5, l6, l7⟩ := h1
    have hne : B 0 7 ≠ B 0 8 := b78
    refine ⟨l1, by simp [gR_setR, tu_at, hne, l2], l3, by simpa [tu_at, gO_setR, gN_setR] using l4, by simpa [tu_at] using l5, by simpa [tu_at] using l6, fun i hi => ?_⟩
    have hi : i < t 3 1 := by simpa [tu_at] using hi
    simpa [tu_at, gB_setR] using l7 i hi
  · obtain ⟨l1, l2, l3, l4, l5, l6, l7⟩ := h2
    refine ⟨l1, by simp [gR_setR, tu_at], l3, ?_, ?_, ?_, fun i hi => ?_⟩
    · right; simp [tu_at, gO_setR, gN_setR, hq, hN, h0N]
    · simpa [tu_at] using hn
    · simpa [tu_at] using hN2
    · have hi : i < ka.length := by simpa [tu_at] using hi
      simp [tu_at, gB_setR, hc i hi, l7 i hi]
  · exact hm
  · exact ho
  · obtain ⟨x1, x2, x3, x4, x5, x6⟩ := hx
    exact ⟨by simpa [tu_at] using x1, by simpa [tu_at] using x2, by simpa [tu_at] using x3, by simp only [tu_at]; intro ha _; simpa using Ne.symm (hx0 (by simpa [tu_at] using ha)), by simp only [tu_at]; intro ha _; simpa using Ne.symm (hx1 (by simpa [tu_at] using ha)), by simpa [tu_at] using x6⟩
theorem S_put2 (h : S2 B G s t ka s2 u) (hn : ka.length < t 5 2) (v : Option Nat) : S2 B G s t ka s2 (setB u (t 4 2) (ka.length) v) := by
  obtain ⟨hd, hs, he, hw, hp, h0, h1, h2, hm, ho, hx, hB⟩ := h
  have hcap : t 5 2 ≠ 0 := by omega
  have hq : OB u (t 4 2) 13 := by
    rcases h2.2.2.2.1 with ⟨z, _⟩ | ⟨_, z, _⟩
    · exact absurd z hcap
    · exact z
  have hx0 := hx
  obtain ⟨x1, x2, x3, x4, x5, x6⟩ := hx0
  refine ⟨?_, ?_, ?_, ?_, ?_, ?_, ?_, ?_, ?_, ?_, hx, hB⟩
  · obtain ⟨d1, d2, d3, d4, d5, d6, d7, d8, d9, d10, d11, d12, d13, d14, d15, d16⟩ := hd
    refine ⟨d1, d2, d3, d4, d5, d6, d7, d8, d9, fun i hi => ?_, d11, d12, fun i hi => ?_, d14, d15, d16⟩
    · rw [gB_setB, if_neg (fun e => ob_ne d8 hq (by decide) e.1)]; exact d10 i hi
    · rw [gB_setB, if_neg (fun e => ob_ne d11 hq (by decide) e.1)]; exact d13 i hi
  · exact hs
  · exact he
  · exact hw
  · exact hp
  · obtain ⟨l1, l2, l3, l4, l5, l6, l7⟩ := h0
    exact ⟨l1, l2, l3, l4, l5, l6, fun i hi => by rw [gB_setB, if_neg (fun e => x4 (by omega) (by omega) e.1)]; exact l7 i hi⟩
  · obtain ⟨l1, l2, l3, l4, l5, l6, l7⟩ := h1
    exact ⟨l1, l2, l3, l4, l5, l6, fun i hi => by rw [gB_setB, if_neg (fun e => x5 (by omega) (by omega) e.1)]; exact l7 i hi⟩
  · obtain ⟨l1, l2, l3, l4, l5, l6, l7⟩ := h2
    exact ⟨l1, l2, l3, l4, l5, l6, fun i hi => by rw [gB_setB, if_neg (fun e => by omega)]; exact l7 i hi⟩
  · exact hm
  · exact ho
end S2E
