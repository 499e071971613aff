section S2P
variable {B : Nat → Nat → Nat} {G : Ctx} {s s2 : Nat → Nat → Int32} {t : Nat → Nat → Nat} {ka : List Nat} {u : Mem}
def Bf (d v out a3 a4 a5 a6 a7 a8 : Nat) (b r e m : Nat → Nat) : Nat → Nat → Nat := fun k i => if k = 0 then (if i = 0 then d else if i = 1 then v else if i = 2 then out else if i = 3 then a3 else if i = 4 then a4 else if i = 5 then a5 else if i = 6 then a6 else if i = 7 then a7 else a8) else if k = 1 then b i else if k = 2 then r i else if k = 3 then e i else m i
def ti (G : Ctx) : Nat → Nat → Nat := fun k _ => if k = 4 then G.2.2 1 else 0
theorem S2_init {G : Ctx} {d v out a3 a4 a5 a6 a7 a8 : Nat} {b r e m : Nat → Nat} {u : Mem} (hD : BD G d a3 a4 a5 a6 a7 a8 u) (hS : StB a3 b r 8 u) (hE : EsB a4 e 4 u) (hM : RI v m u) (o1 : OB u out 10) (o2 : mN u out = 1) (hi : ∀ i j, ak i → ak j → m i = m j → i = j) (hr : ∀ i k, i < 8 → ak k → r i ≠ m k) : S2 (Bf d v out a3 a4 a5 a6 a7 a8 b r e m) G si (ti G) [] si u := by
  obtain ⟨h1, h2, h3, h4, h5, h6, h7, h8, h9, h10, h11, h12, h13, h14, h15, h16, h17, n57, n58, n78⟩ := hD
  have ls : ∀ a, lst G u a → ∀ f, Ls G u a (G.2.2 1) 0 0 f := fun a h f => ⟨h.1, h.2.1, h.2.2, .inl ⟨rfl, rfl⟩, Nat.le_refl _, by omega, fun i hi => absurd hi (by omega)⟩
  refine ⟨⟨h1, h2, h3, h4, h5, h6, h7, h8, h9, fun i hi => (hS.1 i hi).1, h10, h11, fun i hi => (hE.1 i hi).1, h12, h13, h14⟩, fun i hi => ?_, fun i hi => ?_, fun w hw => absurd hw (Nat.not_lt_zero w), fun w hw => absurd hw (Nat.not_lt_zero w), ls _ h15 _, ls _ h16 _, ls _ h17 _, ?_, ⟨o1, o2⟩, ⟨fun i j hi => absurd hi (Nat.not_lt_zero i), fun i j hi => absurd hi (Nat.not_lt_zero i), fun z => absurd rfl z, fun z => absurd rfl z, fun z => absurd rfl z, fun j hj => absurd hj (by simp)⟩, ⟨hS.2.1, hS.2.2, hE.2, hi, hr, n57, n58, n78⟩⟩
  · obtain ⟨k1, k2, k3, k4, k5, k6, k7, k8⟩ := (hS.1 i hi).2
    exact ⟨k1, k2, k3, k4, k5, k6, k7, k8⟩
  · obtain ⟨k1, k2, k3, k4, k5⟩ := (hE.1 i hi).2
    refine ⟨k1, k2, k3, k4, ?_⟩
    show mI u 67 (e i) = if (0 : Int32) = 0 then 1 else 0
    rw [if_pos rfl]; exact k5
  · exact ⟨hM.1, hM.2.1, hM.2.2.1, hM.2.2.2.1, hM.2.2.2.2.1, hM.2.2.2.2.2⟩
theorem Iv_init (G : Ctx) : Iv si (ti G) [] := by
  refine ⟨⟨by show (0 : Nat) ≤ 60; omega, by show (0 : Nat) ≤ 300; omega, rfl, rfl, ⟨0, by omega, rfl⟩, ⟨0, by omega, rfl⟩⟩, fun i _ => ⟨0, by omega, rfl⟩, fun i _ => ⟨1, by omega, rfl⟩, fun i _ => ⟨7, by omega, by omega, rfl⟩, fun i _ => ⟨0, by omega, rfl⟩, fun i _ => ⟨50, by omega, rfl⟩, fun w hw => absurd hw (Nat.not_lt_zero w), fun w hw => absurd hw (Nat.not_lt_zero w), fun w _ => ⟨rfl, rfl, rfl⟩, fun w hw => absurd hw (Nat.not_lt_zero w), rfl⟩
theorem RI_ext {v : Nat} {m : Nat → Nat} {u w : Mem} (h : RI v m u) (hE : Ext u w) : RI v m w := by
  obtain ⟨h1, h2, h3, h4, h5, h6⟩ := h
  have k := hE v h1.1
  refine ⟨hE.ob h1, by rw [k.2.2.2.1]; exact h2, by rw [k.2.2.2.1]; exact h3, by rw [k.2.2.2.1]; exact h4, by rw [k.2.2.2.1]; exact h5, fun j hj => ?_⟩
  obtain ⟨g1, g2, g3, g4⟩ := h6 j hj
  have kk := hE (m j) g2.1
  exact ⟨by rw [k.2.2.2.2.1]; exact g1, hE.ob g2, by rw [kk.2.2.1]; exact g3, fun i hi => by rw [kk.2.2.2.2.2.1]; exact g4 i hi⟩
theorem pure_law (G : Ctx) (L : Nat) (xs : Nat → Int32) (hL : L ≤ 2048) : w_L_law G L xs mEmp := by
  refine ⟨by decide, by decide, fun q1 hq1 u2 h2 => ⟨100, 1000, by decide, by decide, ?_⟩⟩
  have od : OB u2 q1 6 := by rw [h2]; exact (gO_self : OB (mNew mEmp q1 6 0) q1 6)
  refine c_init od (Nat.le_refl _) (Nat.le_refl _) (fun u3 a3 a4 a5 a6 a7 a8 b r e hD hS hE => ⟨by decide, by decide, fun q7 hq7 u8 h8 => ⟨100, 2000, by decide, by decide, ?_⟩⟩)
  have ov : OB u8 q7 7 := by rw [h8]; exact (gO_self : OB (mNew u3 q7 7 0) q7 7)
  have z : ∀ f, mI u8 f q7 = 0 := fun f => by rw [h8, gI_mNew, if_pos rfl]
  have E8 : Ext u3 u8 := by rw [h8]; exact Ext.rf.new hq7
  refine r_init E8 hq7 ov (z _) (z _) (z _) (z _) (Nat.le_refl _) (Nat.le_refl _) (fun u9 m hE9 hRI hinj hfr => ⟨by decide, by decide, fun q13 hq13 u14 h14 => ⟨513, ?_⟩⟩)
  have E14 : Ext u9 u14 := by rw [h14]; exact Ext.rf.new hq13
  have Ea : Ext u3 u14 := hE9.tr E14
  have oo : OB u14 q13 10 := by rw [h14]; exact (gO_self : OB (mNew u9 q13 10 1) q13 10)
  have on : mN u14 q13 = 1 := by rw [h14, gN_mNew, if_pos rfl]
  have hS2 := S2_init (BD_ext hD Ea) (StB_ext hS hD.2.2.2.2.2.2.2.1.1 Ea) (EsB_ext hE hD.2.2.2.2.2.2.2.2.2.1.1 Ea) (RI_ext hRI E14) oo on hinj (fun i k hi hk e2 => hfr k hk (e2 ▸ (hS.1 i hi).2.2.2.2.2.2.1.1))
  refine lawloop (B := Bf q1 q7 q13 a3 a4 a5 a6 a7 a8 b r e m) hL xs 512 0 (by omega) (by omega) si (ti G) [] _ _ u14 hS2 (Iv_init G) ?_
  show 4 * 512 + 3 * (300 - 0) ≤ _ ∧ 600 * 512 + 1000 * (300 - 0) ≤ _
  exact ⟨by decide, by decide⟩
end S2P
