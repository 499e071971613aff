section S2Z
variable {B : Nat → Nat → Nat} {G : Ctx} {s z : Nat → Nat → Int32} {t : Nat → Nat → Nat} {ka : List Nat} {u : Mem}
def si : Nat → Nat → Int32 := fun k _ => if k = 4 then 1 else if k = 6 then 7 else if k = 8 then 50 else 0
def z0 : Nat → Nat → Int32 := fun _ _ => 0
def Bf (d a3 a4 a5 a6 a7 a8 : Nat) (b r e m : Nat → Nat) : Nat → Nat → Nat := fun k i => if k = 0 then (if i = 0 then d else if i = 1 then 0 else if i = 2 then 0 else if i = 3 then a3 else if i = 4 then a4 else if i = 5 then a5 else if i = 6 then a6 else if i = 7 then a7 else a8) else if k = 1 then b i else if k = 2 then r i else if k = 3 then e i else m i
def ti (G : Ctx) : Nat → Nat → Nat := fun k _ => if k = 4 then G.2.2 1 else 0
/-- a row of ints as it is made -/
def AR (u : Mem) (q n : Nat) : Prop := OB u q 8 ∧ mN u q = n ∧ ∀ i, mA u q i = 0
theorem AR_new {q n : Nat} : AR (mNew u q 8 n) q n := ⟨gO_self, by rw [gN_mNew, if_pos rfl], fun i => by rw [gA_mNew, if_pos rfl]⟩
theorem AR_ext {v : Mem} {q n : Nat} (h : AR u q n) (hE : Ext u v) : AR v q n := by
  have k := hE q h.1.1
  exact ⟨hE.ob h.1, by rw [k.2.2.1]; exact h.2.1, fun i => by rw [k.2.2.2.2.2.1]; exact h.2.2 i⟩
theorem S2_init {d a3 a4 a5 a6 a7 a8 : Nat} {b r e m : Nat → Nat} (hD : BD G d a3 a4 a5 a6 a7 a8 u) (hS : StB a3 b r 8 u) (hE : EsB a4 e 4 u) (hM : ∀ k, ak k → AR u (m k) (lnm k)) (hi : ∀ i j, ak i → ak j → m i = m j → i = j) (hr : ∀ i k, i < 8 → ak k → r i ≠ m k) : S2 (Bf d a3 a4 a5 a6 a7 a8 b r e m) G si (ti G) [] z0 u := by
  obtain ⟨h1, h2, h3, h4, h5, h6, h7, h8, h9, h10, h11, h12, h13, h14, h15, h16, h17, n57, n58, n78⟩ := hD
  have ls : ∀ a, lst G u a → ∀ f, Ls G u a (G.2.2 1) 0 0 f := fun a h f => ⟨h.1, h.2.1, h.2.2, .inl ⟨rfl, rfl⟩, Nat.le_refl _, by omega, fun i hi => absurd hi (by omega)⟩
  refine ⟨⟨h1, h2, h3, h4, h5, h6, h7, h8, h9, fun i hi => (hS.1 i hi).1, h10, h11, fun i hi => (hE.1 i hi).1, h12, h13, h14⟩, fun i hi => ?_, fun i hi => ?_, fun w hw => absurd hw (Nat.not_lt_zero w), fun w hw => absurd hw (Nat.not_lt_zero w), ls _ h15 _, ls _ h16 _, ls _ h17 _, fun k hk => ⟨(hM k hk).1, (hM k hk).2.1, fun i _ => (hM k hk).2.2 i⟩, ⟨h1, h1⟩, ⟨fun i j hi => absurd hi (Nat.not_lt_zero i), fun i j hi => absurd hi (Nat.not_lt_zero i), fun y => absurd rfl y, fun y => absurd rfl y, fun y => absurd rfl y, fun j hj => absurd hj (by simp)⟩, ⟨hS.2.1, hS.2.2, hE.2, hi, hr, n57, n58, n78⟩⟩
  · obtain ⟨k1, k2, k3, k4, k5, k6, k7, k8⟩ := (hS.1 i hi).2
    exact ⟨k1, k2, k3, k4, k5, k6, k7, k8⟩
  · obtain ⟨k1, k2, k3, k4, k5⟩ := (hE.1 i hi).2
    refine ⟨k1, k2, k3, k4, ?_⟩
    show mI u 67 (e i) = if (0 : Int32) = 0 then 1 else 0
    rw [if_pos rfl]; exact k5
theorem Iv_init (G : Ctx) : Iv si (ti G) [] := by
  refine ⟨⟨by show (0 : Nat) ≤ 60; omega, by show (0 : Nat) ≤ 300; omega, rfl, rfl, ⟨0, by omega, rfl⟩, ⟨0, by omega, rfl⟩⟩, fun i _ => ⟨0, by omega, rfl⟩, fun i _ => ⟨1, by omega, rfl⟩, fun i _ => ⟨7, by omega, by omega, rfl⟩, fun i _ => ⟨0, by omega, rfl⟩, fun i _ => ⟨50, by omega, rfl⟩, fun w hw => absurd hw (Nat.not_lt_zero w), fun w hw => absurd hw (Nat.not_lt_zero w), fun w _ => ⟨rfl, rfl, rfl⟩, fun w hw => absurd hw (Nat.not_lt_zero w), rfl⟩
theorem Qi_init : Qi si 0 0 := by
  refine ⟨⟨by omega, fun i _ => .inl rfl, fun w hw => absurd hw (Nat.not_lt_zero w), fun w hw => absurd hw (Nat.not_lt_zero w), fun w w' hw => absurd hw (Nat.not_lt_zero w)⟩, fun j hj => absurd hj (Nat.not_lt_zero j), fun _ => 5, by decide, fun w hw => absurd hw (Nat.not_lt_zero w), fun w _ _ => Nat.le_refl _, fun w hw => absurd hw (Nat.not_lt_zero w)⟩
/-- the rows that are written at the start: streets before i, escorts before j -/
def Zi (z : Nat → Nat → Int32) (i j : Nat) : Prop := (∀ r k, r ≠ 1 → r ≠ 2 → z r k = 0) ∧ (∀ k, k < 8 → z 1 (6 * k) = 0 ∧ z 1 (6 * k + 2) = 0) ∧ (∀ k, k < i → z 1 (6 * k + 1) = 1 ∧ z 1 (6 * k + 3) = 7 ∧ z 1 (6 * k + 4) = 7 ∧ z 1 (6 * k + 5) = 7) ∧ (∀ k, k < 4 → z 2 (3 * k) = 0) ∧ (∀ k, k < j → z 2 (3 * k + 1) = 50 ∧ z 2 (3 * k + 2) = -1)
theorem Zi_0 : Zi z0 0 0 := ⟨fun _ _ _ _ => rfl, fun _ _ => ⟨rfl, rfl⟩, fun k hk => absurd hk (Nat.not_lt_zero k), fun _ _ => rfl, fun k hk => absurd hk (Nat.not_lt_zero k)⟩
theorem Zi_s {i : Nat} (h : Zi z i 0) (hi : i < 8) : Zi (up2 (up2 (up2 (up2 z 1 (6 * i + 1) 1) 1 (6 * i + 3) 7) 1 (6 * i + 4) 7) 1 (6 * i + 5) 7) (i + 1) 0 := by
  obtain ⟨h1, h2, h3, h4, h5⟩ := h
  have g : ∀ r k, (r ≠ 1 ∨ (k ≠ 6 * i + 1 ∧ k ≠ 6 * i + 3 ∧ k ≠ 6 * i + 4 ∧ k ≠ 6 * i + 5)) → up2 (up2 (up2 (up2 z 1 (6 * i + 1) 1) 1 (6 * i + 3) 7) 1 (6 * i + 4) 7) 1 (6 * i + 5) 7 r k = z r k := fun r k hrk => by
    rw [up2_at, if_neg (by omega), up2_at, if_neg (by omega), up2_at, if_neg (by omega), up2_at, if_neg (by omega)]
  refine ⟨fun r k y1 y2 => by rw [g r k (.inl y1)]; exact h1 r k y1 y2, fun k hk => ?_, fun k hk => ?_, fun k hk => by rw [g 2 _ (.inl (by decide))]; exact h4 k hk, fun k hk => absurd hk (Nat.not_lt_zero k)⟩
  · rw [g 1 (6 * k) (.inr (by omega)), g 1 (6 * k + 2) (.inr (by omega))]; exact h2 k hk
  · by_cases e : k = i
    · subst e
      refine ⟨?_, ?_, ?_, ?_⟩ <;> simp [up2_at]
    · rw [g 1 (6 * k + 1) (.inr (by omega)), g 1 (6 * k + 3) (.inr (by omega)), g 1 (6 * k + 4) (.inr (by omega)), g 1 (6 * k + 5) (.inr (by omega))]
      exact h3 k (by omega)
theorem Zi_e {j : Nat} (h : Zi z 8 j) (hj : j < 4) : Zi (up2 (up2 z 2 (3 * j + 1) 50) 2 (3 * j + 2) (-1)) 8 (j + 1) := by
  obtain ⟨h1, h2, h3, h4, h5⟩ := h
  have g : ∀ r k, (r ≠ 2 ∨ (k ≠ 3 * j + 1 ∧ k ≠ 3 * j + 2)) → up2 (up2 z 2 (3 * j + 1) 50) 2 (3 * j + 2) (-1) r k = z r k := fun r k hrk => by
    rw [up2_at, if_neg (by omega), up2_at, if_neg (by omega)]
  refine ⟨fun r k y1 y2 => by rw [g r k (.inl y2)]; exact h1 r k y1 y2, fun k hk => ?_, fun k hk => ?_, fun k hk => by rw [g 2 _ (.inr (by omega))]; exact h4 k hk, fun k hk => ?_⟩
  · rw [g 1 (6 * k) (.inl (by decide)), g 1 (6 * k + 2) (.inl (by decide))]; exact h2 k hk
  · rw [g 1 (6 * k + 1) (.inl (by decide)), g 1 (6 * k + 3) (.inl (by decide)), g 1 (6 * k + 4) (.inl (by decide)), g 1 (6 * k + 5) (.inl (by decide))]; exact h3 k hk
  · by_cases e : k = j
    · subst e
      refine ⟨?_, ?_⟩ <;> simp [up2_at]
    · rw [g 2 (3 * k + 1) (.inr (by omega)), g 2 (3 * k + 2) (.inr (by omega))]
      exact h5 k (by omega)
theorem Rel_init (h : Zi z 8 4) : Rel si 0 0 z := by
  obtain ⟨h1, h2, h3, h4, h5⟩ := h
  refine ⟨⟨h1 0 0 (by decide) (by decide), h1 0 1 (by decide) (by decide), h1 0 2 (by decide) (by decide), h1 0 3 (by decide) (by decide)⟩, fun k hk => ?_, fun e he => ?_, fun w hw => absurd hw (Nat.not_lt_zero w), fun w _ hw => ⟨h1 3 _ (by decide) (by decide), h1 3 _ (by decide) (by decide), h1 3 _ (by decide) (by decide)⟩, fun j hj => absurd hj (Nat.not_lt_zero j)⟩
  · obtain ⟨a1, a2⟩ := h2 k hk
    obtain ⟨b1, b2, b3, b4⟩ := h3 k hk
    exact ⟨a1, b1, a2, b2, b3, b4⟩
  · obtain ⟨b1, b2⟩ := h5 e he
    exact ⟨h4 e he, b1, .inl ⟨rfl, b2⟩⟩
theorem l103 {mc ms : Nat} (hK : ∀ z u, S2 B G s t ka z u → Zi z 8 4 → ∃ n, w_L_law_139 G n (B 0 0) (B 4 0) (B 4 1) (B 4 2) (B 4 3) (B 4 4) (B 4 5) 0 mc ms u) : ∀ g j z u, j + g = 4 → S2 B G s t ka z u → Zi z 8 j → w_L_law_103 G (g + 1) (B 0 0) (B 4 0) (B 4 1) (B 4 2) (B 4 3) (B 4 4) (B 4 5) (nI j) mc ms u := by
  intro g
  induction g with
  | zero =>
    intro j z u hj h hz
    rw [wS_L_law_103]
    have e4 : j = 4 := by omega
    subst e4
    exact ⟨fun _ => hK z u h hz, fun y => absurd (by decide) y⟩
  | succ g ih =>
    intro j z u hj h hz
    have n4 : ¬ ((4 : Int32) ≤ nI j) := nI_ge (a := j) (b := 4) (by omega) (by omega)
    rw [wS_L_law_103]
    refine ⟨fun y => absurd y n4, fun _ => ?_⟩
    refine wr h 2 (3 * j + 1) (by omega) (j31 j) (by show 3 * j + 1 < 12; omega) (fun u1 h1 => ?_)
    refine wr h1 2 (3 * j + 2) (by omega) (j32 j) (by show 3 * j + 2 < 12; omega) (fun u2 h2 => ?_)
    rw [nI_1]
    exact ih (j + 1) _ u2 (by omega) h2 (Zi_e hz (by omega))
theorem l44 {mc ms : Nat} (hK : ∀ z u, S2 B G s t ka z u → Zi z 8 4 → ∃ n, w_L_law_139 G n (B 0 0) (B 4 0) (B 4 1) (B 4 2) (B 4 3) (B 4 4) (B 4 5) 0 mc ms u) : ∀ g i z u, i + g = 8 → S2 B G s t ka z u → Zi z i 0 → w_L_law_44 G (g + 1) (B 0 0) (B 4 0) (B 4 1) (B 4 2) (B 4 3) (B 4 4) (B 4 5) (nI i) mc ms u := by
  intro g
  induction g with
  | zero =>
    intro i z u hi h hz
    rw [wS_L_law_44]
    have e8 : i = 8 := by omega
    subst e8
    exact ⟨fun _ => ⟨5, l103 hK 4 0 z u (by omega) h hz⟩, fun y => absurd (by decide) y⟩
  | succ g ih =>
    intro i z u hi h hz
    have n8 : ¬ ((8 : Int32) ≤ nI i) := nI_ge (a := i) (b := 8) (by omega) (by omega)
    rw [wS_L_law_44]
    refine ⟨fun y => absurd y n8, fun _ => ?_⟩
    refine wr h 1 (6 * i + 1) (by omega) (j61 i) (by show 6 * i + 1 < 48; omega) (fun u1 h1 => ?_)
    refine wr h1 1 (6 * i + 3) (by omega) (j63 i) (by show 6 * i + 3 < 48; omega) (fun u2 h2 => ?_)
    refine wr h2 1 (6 * i + 4) (by omega) (j64 i) (by show 6 * i + 4 < 48; omega) (fun u3 h3 => ?_)
    refine wr h3 1 (6 * i + 5) (by omega) (j65 i) (by show 6 * i + 5 < 48; omega) (fun u4 h4 => ?_)
    rw [nI_1]
    exact ih (i + 1) _ u4 (by omega) h4 (Zi_s hz (by omega))
theorem pure_law (G : Ctx) (hG : G.2.2 4 ≤ 260) : w_L_law G mEmp := by
  refine ⟨by decide, by decide, fun q1 hq1 u2 h2 => ⟨100, 1000, by decide, by decide, ?_⟩⟩
  have od : OB u2 q1 6 := by rw [h2]; exact (gO_self : OB (mNew mEmp q1 6 0) q1 6)
  refine c_init od (Nat.le_refl _) (Nat.le_refl _) (fun u3 a3 a4 a5 a6 a7 a8 b r e hD hS hE => ⟨by decide, by decide, fun q7 hq7 u8 h8 => ⟨by decide, by decide, fun q9 hq9 u10 h10 => ⟨by decide, by decide, fun q11 hq11 u12 h12 => ⟨by decide, by decide, fun q13 hq13 u14 h14 => ⟨by decide, by decide, fun q15 hq15 u16 h16 => ⟨by decide, by decide, fun q17 hq17 u18 h18 => ⟨9, ?_⟩⟩⟩⟩⟩⟩⟩)
  have E8 : Ext u3 u8 := by rw [h8]; exact Ext.rf.new hq7
  have E10 : Ext u8 u10 := by rw [h10]; exact Ext.rf.new hq9
  have E12 : Ext u10 u12 := by rw [h12]; exact Ext.rf.new hq11
  have E14 : Ext u12 u14 := by rw [h14]; exact Ext.rf.new hq13
  have E16 : Ext u14 u16 := by rw [h16]; exact Ext.rf.new hq15
  have E18 : Ext u16 u18 := by rw [h18]; exact Ext.rf.new hq17
  have A8 : AR u8 q7 4 := by rw [h8]; exact AR_new
  have A10 : AR u10 q9 48 := by rw [h10]; exact AR_new
  have A12 : AR u12 q11 12 := by rw [h12]; exact AR_new
  have A14 : AR u14 q13 48 := by rw [h14]; exact AR_new
  have A16 : AR u16 q15 40 := by rw [h16]; exact AR_new
  have A18 : AR u18 q17 40 := by rw [h18]; exact AR_new
  have F16 := E16.tr E18
  have F14 := E14.tr F16
  have F12 := E12.tr F14
  have F10 := E10.tr F12
  have F8 := E8.tr F10
  have n0 : NDf u3 u8 [q7] := NDf_c (u := u3) ⟨List.nodup_nil, fun x hx => absurd hx List.not_mem_nil⟩ hq7 E8 A8.1.1 hq7
  have n1 : NDf u3 u10 [q9, q7] := NDf_c n0 hq9 E10 A10.1.1 (E8.nin hq9)
  have n2 : NDf u3 u12 [q11, q9, q7] := NDf_c n1 hq11 E12 A12.1.1 ((E8.tr E10).nin hq11)
  have n3 : NDf u3 u14 [q13, q11, q9, q7] := NDf_c n2 hq13 E14 A14.1.1 ((E8.tr (E10.tr E12)).nin hq13)
  have n4 : NDf u3 u16 [q15, q13, q11, q9, q7] := NDf_c n3 hq15 E16 A16.1.1 ((E8.tr (E10.tr (E12.tr E14))).nin hq15)
  have n5 : NDf u3 u18 [q17, q15, q13, q11, q9, q7] := NDf_c n4 hq17 E18 A18.1.1 ((E8.tr (E10.tr (E12.tr (E14.tr E16)))).nin hq17)
  -- the rows' addresses: the last made stands first
  have hm : ∀ i j, ak i → ak j → [q17, q15, q13, q11, q9, q7].getD (5 - i) 0 = [q17, q15, q13, q11, q9, q7].getD (5 - j) 0 → i = j := fun i j hi hj he => by
    have hi : i < 6 := hi
    have hj : j < 6 := hj
    have := nd_inj _ (5 - i) (5 - j) n5.1 (by simp; omega) (by simp; omega) he
    omega
  have hM : ∀ k, ak k → AR u18 ([q17, q15, q13, q11, q9, q7].getD (5 - k) 0) (lnm k) := fun k hk => by
    have hk : k < 6 := hk
    match k, hk with
    | 0, _ => exact AR_ext A8 F10
    | 1, _ => exact AR_ext A10 F12
    | 2, _ => exact AR_ext A12 F14
    | 3, _ => exact AR_ext A14 F16
    | 4, _ => exact AR_ext A16 E18
    | 5, _ => exact A18
  have hr : ∀ i k, i < 8 → ak k → r i ≠ [q17, q15, q13, q11, q9, q7].getD (5 - k) 0 := fun i k hi hk he => by
    have hk : k < 6 := hk
    have hmem : [q17, q15, q13, q11, q9, q7].getD (5 - k) 0 ∈ [q17, q15, q13, q11, q9, q7] := by
      have hl : 5 - k < [q17, q15, q13, q11, q9, q7].length := by simp; omega
      rw [List.getD_eq_getElem?_getD, List.getElem?_eq_getElem hl]; exact List.getElem_mem hl
    exact (n5.2 _ hmem).2 (he ▸ (hS.1 i hi).2.2.2.2.2.2.1.1)
  have hS2 := S2_init (BD_ext hD F8) (StB_ext hS hD.2.2.2.2.2.2.2.1.1 F8) (EsB_ext hE hD.2.2.2.2.2.2.2.2.2.1.1 F8) hM hm hr
  refine l44 (B := Bf q1 a3 a4 a5 a6 a7 a8 b r e (fun k => [q17, q15, q13, q11, q9, q7].getD (5 - k) 0)) (s := si) (t := ti G) (ka := []) (fun z u h hz => ⟨91, ?_⟩) 8 0 z0 u18 (by omega) hS2 Zi_0
  refine lawloop hG 90 0 (by omega) si (ti G) [] z _ _ u ⟨h, Rel_init hz, Iv_init G, Qi_init⟩ ⟨0, by omega, rfl⟩ ?_
  show 4 * 90 + 3 * (300 - 0) ≤ _ ∧ 600 * 90 + 1000 * (300 - 0) ≤ _
  exact ⟨by decide, by decide⟩
end S2Z
