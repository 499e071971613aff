section S2P
variable {B : Nat → Nat → Nat} {G : Ctx} {s s2 : Nat → Nat → Int32} {t : Nat → Nat → Nat} {ka : List Nat} {u : Mem}
theorem nd_inj : ∀ (l : List Nat) (i j : Nat), l.Nodup → i < l.length → j < l.length → l.getD i 0 = l.getD j 0 → i = j
  | [], i, j, _, hi, _, _ => absurd hi (by simp)
  | x :: l, 0, 0, _, _, _, _ => rfl
  | x :: l, 0, j + 1, hn, _, hj, e => by
    have hj2 : j < l.length := by simpa using hj
    have hm : l.getD j 0 ∈ l := by rw [List.getD_eq_getElem?_getD, List.getElem?_eq_getElem hj2]; exact List.getElem_mem hj2
    have e2 : x = l.getD j 0 := by simpa using e
    exact absurd (e2 ▸ hm) (List.nodup_cons.mp hn).1
  | x :: l, i + 1, 0, hn, hi, _, e => by
    have hi2 : i < l.length := by simpa using hi
    have hm : l.getD i 0 ∈ l := by rw [List.getD_eq_getElem?_getD, List.getElem?_eq_getElem hi2]; exact List.getElem_mem hi2
    have e2 : l.getD i 0 = x := by simpa using e
    exact absurd (e2 ▸ hm) (List.nodup_cons.mp hn).1
  | x :: l, i + 1, j + 1, hn, hi, hj, e => by
    rw [nd_inj l i j (List.nodup_cons.mp hn).2 (by simpa using hi) (by simpa using hj) (by simpa using e)]
def NDf (u0 u : Mem) (l : List Nat) : Prop := l.Nodup ∧ ∀ x, x ∈ l → x ∈ mL u ∧ x ∉ mL u0
theorem NDf_c {u0 u v : Mem} {l : List Nat} {q : Nat} (h : NDf u0 u l) (hq : q ∉ mL u) (hE : Ext u v) (hqv : q ∈ mL v) (hq0 : q ∉ mL u0) : NDf u0 v (q :: l) := by
  refine ⟨List.nodup_cons.mpr ⟨fun z => hq (h.2 q z).1, h.1⟩, fun x hx => ?_⟩
  rcases List.mem_cons.mp hx with e | e
  · rw [e]; exact ⟨hqv, hq0⟩
  · exact ⟨(hE x (h.2 x e).1).1, (h.2 x e).2⟩
/-- a row filled -/
def FA (q lo hi : Nat) (c : Int32) (u v : Mem) : Prop := mL v = mL u ∧ mK v = mK u ∧ mN v = mN u ∧ mI v = mI u ∧ mR v = mR u ∧ mB v = mB u ∧ ∀ a j, mA v a j = if a = q ∧ lo ≤ j ∧ j < hi then c else mA u a j
theorem FA_0 (q lo : Nat) (c : Int32) (u : Mem) : FA q lo lo c u u := ⟨rfl, rfl, rfl, rfl, rfl, rfl, fun a j => by rw [if_neg (by omega)]⟩
theorem FA_s {q lo hi : Nat} {c : Int32} {u v : Mem} (hlo : lo < hi) (h : FA q (lo + 1) hi c (setA u q lo c) v) : FA q lo hi c u v := by
  obtain ⟨h1, h2, h3, h4, h5, h6, h7⟩ := h
  refine ⟨h1, h2, h3, h4, h5, h6, fun a j => ?_⟩
  rw [h7, gA_setA]
  by_cases y : a = q ∧ lo + 1 ≤ j ∧ j < hi
  · rw [if_pos y, if_pos (by omega)]
  · rw [if_neg y]
    by_cases y2 : a = q ∧ j = lo
    · rw [if_pos y2, if_pos (by omega)]
    · rw [if_neg y2, if_neg (by omega)]
theorem FA_ext {q lo hi : Nat} {c : Int32} {u0 u v : Mem} (hE : Ext u0 u) (hq : q ∉ mL u0) (h : FA q lo hi c u v) : Ext u0 v := by
  obtain ⟨h1, h2, h3, h4, h5, h6, h7⟩ := h
  intro a ha
  obtain ⟨k1, k2, k3, k4, k5, k6, k7⟩ := hE a ha
  refine ⟨by rw [h1]; exact k1, by rw [h2]; exact k2, by rw [h3]; exact k3, fun f => by rw [h4]; exact k4 f, fun f => by rw [h5]; exact k5 f, fun i => ?_, fun i => by rw [h6]; exact k7 i⟩
  rw [h7, if_neg (fun (z : a = q ∧ lo ≤ i ∧ i < hi) => hq (z.1 ▸ ha))]; exact k6 i
theorem FA_ob {q lo hi : Nat} {c : Int32} {u v : Mem} (h : FA q lo hi c u v) (a k : Nat) : OB v a k ↔ OB u a k := by unfold OB; rw [h.1, h.2.1]
theorem c_f186 {G : Ctx} {d q : Nat} {K : Mem → Prop} : ∀ n i mc ms (u : Mem), i + n = 4 → OB u d 7 → mR u 232 d = some q → OB u q 8 → mN u q = 4 → (∀ v, FA q i 4 50 u v → K v) → w_X6_init_186 G d K (n + 1) (nI i) mc ms u := by
  intro n
  induction n with
  | zero =>
    intro i mc ms u hi h1 h2 h3 h4 hK
    have e : (4 : Int32) ≤ nI i := by rw [show i = 4 by omega]; decide
    rw [wS_X6_init_186]
    refine ⟨fun _ => hK u ?_, fun z => absurd e z⟩
    rw [show i = 4 by omega]; exact FA_0 _ _ _ _
  | succ n ih =>
    intro i mc ms u hi h1 h2 h3 h4 hK
    have ne : ¬ ((4 : Int32) ≤ nI i) := nI_ge (a := i) (b := 4) (by omega) (by omega)
    rw [wS_X6_init_186]
    refine ⟨fun z => absurd z ne, fun _ => ⟨h1, fun x hx => ⟨q, hx.trans h2, h3, by rw [h4]; exact vp_in_nI (by omega) (by decide), fun u2 k2 => ?_⟩⟩⟩
    rw [k2, nI_1, nIc (i := i) (N := 4) (by omega) (by decide)]
    exact ih (i + 1) mc ms _ (by omega) h1 h2 h3 h4 (fun v hv => hK v (FA_s (by omega) hv))
theorem c_f164 {G : Ctx} {d q : Nat} {K : Mem → Prop} : ∀ n i mc ms (u : Mem), i + n = 24 → OB u d 7 → mR u 230 d = some q → OB u q 8 → mN u q = 24 → (∀ v, FA q i 24 7 u v → ∃ n, w_X6_init_186 G d K n (0 : Int32) mc ms v) → w_X6_init_164 G d K (n + 1) (nI i) mc ms u := by
  intro n
  induction n with
  | zero =>
    intro i mc ms u hi h1 h2 h3 h4 hK
    have e : (24 : Int32) ≤ nI i := by rw [show i = 24 by omega]; decide
    rw [wS_X6_init_164]
    refine ⟨fun _ => hK u ?_, fun z => absurd e z⟩
    rw [show i = 24 by omega]; exact FA_0 _ _ _ _
  | succ n ih =>
    intro i mc ms u hi h1 h2 h3 h4 hK
    have ne : ¬ ((24 : Int32) ≤ nI i) := nI_ge (a := i) (b := 24) (by omega) (by omega)
    rw [wS_X6_init_164]
    refine ⟨fun z => absurd z ne, fun _ => ⟨h1, fun x hx => ⟨q, hx.trans h2, h3, by rw [h4]; exact vp_in_nI (by omega) (by decide), fun u2 k2 => ?_⟩⟩⟩
    rw [k2, nI_1, nIc (i := i) (N := 24) (by omega) (by decide)]
    exact ih (i + 1) mc ms _ (by omega) h1 h2 h3 h4 (fun v hv => hK v (FA_s (by omega) hv))
theorem c_f143 {G : Ctx} {d q : Nat} {K : Mem → Prop} : ∀ n i mc ms (u : Mem), i + n = 8 → OB u d 7 → mR u 228 d = some q → OB u q 8 → mN u q = 8 → (∀ v, FA q i 8 1 u v → ∃ n, w_X6_init_164 G d K n (0 : Int32) mc ms v) → w_X6_init_143 G d K (n + 1) (nI i) mc ms u := by
  intro n
  induction n with
  | zero =>
    intro i mc ms u hi h1 h2 h3 h4 hK
    have e : (8 : Int32) ≤ nI i := by rw [show i = 8 by omega]; decide
    rw [wS_X6_init_143]
    refine ⟨fun _ => hK u ?_, fun z => absurd e z⟩
    rw [show i = 8 by omega]; exact FA_0 _ _ _ _
  | succ n ih =>
    intro i mc ms u hi h1 h2 h3 h4 hK
    have ne : ¬ ((8 : Int32) ≤ nI i) := nI_ge (a := i) (b := 8) (by omega) (by omega)
    rw [wS_X6_init_143]
    refine ⟨fun z => absurd z ne, fun _ => ⟨h1, fun x hx => ⟨q, hx.trans h2, h3, by rw [h4]; exact vp_in_nI (by omega) (by decide), fun u2 k2 => ?_⟩⟩⟩
    rw [k2, nI_1, nIc (i := i) (N := 8) (by omega) (by decide)]
    exact ih (i + 1) mc ms _ (by omega) h1 h2 h3 h4 (fun v hv => hK v (FA_s (by omega) hv))
def mpos (k : Nat) : Nat := if k ≤ 9 then 19 - k else if k ≤ 16 then 20 - k else 21 - k
theorem mpos_lt {k : Nat} (h : ak k) : mpos k < 17 := by unfold mpos; unfold ak at h; split <;> (try split) <;> omega
def si : Nat → Nat → Int32 := fun k _ => if k = 4 then 1 else if k = 6 then 7 else if k = 8 then 50 else 0
def RI (d : Nat) (m : Nat → Nat) (u : Mem) : Prop := OB u d 7 ∧ mI u 225 d = 0 ∧ mI u 226 d = 0 ∧ mI u 234 d = 0 ∧ mI u 241 d = 0 ∧ ∀ k, ak k → mR u (224 + k) d = some (m k) ∧ OB u (m k) (kdm k) ∧ mN u (m k) = lnm k ∧ ∀ i, i < lnm k → mA u (m k) i = si k i
theorem r_init {G : Ctx} {d MC MS : Nat} {u0 : Mem} (E0 : Ext u0 u) (hd0 : d ∉ mL u0) (hd : OB u d 7) (i1 : mI u 225 d = 0) (i2 : mI u 226 d = 0) (i3 : mI u 234 d = 0) (i4 : mI u 241 d = 0) (hmc : 100 ≤ MC) (hms : 2000 ≤ MS) {K : Mem → Prop} (hK : ∀ u' (m : Nat → Nat), Ext u0 u' → RI d m u' → (∀ i j, ak i → ak j → m i = m j → i = j) → (∀ k, ak k → m k ∉ mL u0) → K u') : w_X6_init G d MC MS u K := by
  have ND0 : NDf u0 u [] := ⟨List.nodup_nil, fun x hx => absurd hx (by simp)⟩
  refine ⟨by omega, by omega, fun q3 hq3 v3 hv3 => ?_⟩
  have q03 := E0.nin hq3
  have X3 : Ext u v3 := by rw [hv3]; exact Ext.rf.new hq3
  have k1 : OB v3 d 7 := X3.ob hd
  have k2 : mI v3 225 d = 0 := by rw [(X3 _ hd.1).2.2.2.1]; exact i1
  have k3 : mI v3 226 d = 0 := by rw [(X3 _ hd.1).2.2.2.1]; exact i2
  have k4 : mI v3 234 d = 0 := by rw [(X3 _ hd.1).2.2.2.1]; exact i3
  have k5 : mI v3 241 d = 0 := by rw [(X3 _ hd.1).2.2.2.1]; exact i4
  have k6 : OB v3 q3 8 := by rw [hv3]; exact (gO_self : OB (mNew u q3 8 8) q3 8)
  have k7 : mN v3 q3 = 8 := by rw [hv3, gN_mNew, if_pos rfl]
  have k8 : ∀ i, mA v3 q3 i = 0 := fun i => by rw [hv3, gA_mNew, if_pos rfl]
  have D3 : NDf u0 v3 (q3 :: []) := NDf_c ND0 hq3 X3 k6.1 q03
  refine ⟨k1, fun w3 hw3 => ?_⟩
  have k9 : OB w3 d 7 := by rw [hw3]; exact k1
  have k10 : mI w3 225 d = 0 := by rw [hw3]; exact k2
  have k11 : mI w3 226 d = 0 := by rw [hw3]; exact k3
  have k12 : mI w3 234 d = 0 := by rw [hw3]; exact k4
  have k13 : mI w3 241 d = 0 := by rw [hw3]; exact k5
  have k14 : OB w3 q3 8 := by rw [hw3]; exact k6
  have k15 : mN w3 q3 = 8 := by rw [hw3]; exact k7
  have k16 : ∀ i, mA w3 q3 i = 0 := by rw [hw3]; exact k8
  have k17 : mR w3 227 d = some q3 := by rw [hw3, gR_setR, if_pos ⟨rfl, rfl⟩]
  have F3 : Ext u0 w3 := by rw [hw3]; exact (E0.tr X3).setR hd0 _ _
  have G3 : NDf u0 w3 (q3 :: []) := by rw [hw3]; exact D3
  clear hv3 hw3 X3 D3
  refine ⟨by omega, by omega, fun q4 hq4 v4 hv4 => ?_⟩
  have q04 := F3.nin hq4
  have X4 : Ext w3 v4 := by rw [hv4]; exact Ext.rf.new hq4
  have k18 : OB v4 d 7 := X4.ob k9
  have k19 : mI v4 225 d = 0 := by rw [(X4 _ k9.1).2.2.2.1]; exact k10
  have k20 : mI v4 226 d = 0 := by rw [(X4 _ k9.1).2.2.2.1]; exact k11
  have k21 : mI v4 234 d = 0 := by rw [(X4 _ k9.1).2.2.2.1]; exact k12
  have k22 : mI v4 241 d = 0 := by rw [(X4 _ k9.1).2.2.2.1]; exact k13
  have k23 : OB v4 q3 8 := X4.ob k14
  have k24 : mN v4 q3 = 8 := by rw [(X4 _ k14.1).2.2.1]; exact k15
  have k25 : ∀ i, mA v4 q3 i = 0 := fun i => by rw [(X4 _ k14.1).2.2.2.2.2.1]; exact k16 i
  have k26 : mR v4 227 d = some q3 := by rw [(X4 _ k9.1).2.2.2.2.1]; exact k17
  have k27 : OB v4 q4 8 := by rw [hv4]; exact (gO_self : OB (mNew w3 q4 8 8) q4 8)
  have k28 : mN v4 q4 = 8 := by rw [hv4, gN_mNew, if_pos rfl]
  have k29 : ∀ i, mA v4 q4 i = 0 := fun i => by rw [hv4, gA_mNew, if_pos rfl]
  have D4 : NDf u0 v4 (q4 :: (q3 :: [])) := NDf_c G3 hq4 X4 k27.1 q04
  refine ⟨k18, fun w4 hw4 => ?_⟩
  have k30 : OB w4 d 7 := by rw [hw4]; exact k18
  have k31 : mI w4 225 d = 0 := by rw [hw4]; exact k19
  have k32 : mI w4 226 d = 0 := by rw [hw4]; exact k20
  have k33 : mI w4 234 d = 0 := by rw [hw4]; exact k21
  have k34 : mI w4 241 d = 0 := by rw [hw4]; exact k22
  have k35 : OB w4 q3 8 := by rw [hw4]; exact k23
  have k36 : mN w4 q3 = 8 := by rw [hw4]; exact k24
  have k37 : ∀ i, mA w4 q3 i = 0 := by rw [hw4]; exact k25
  have k38 : mR w4 227 d = some q3 := by rw [hw4, gR_setR, if_neg (fun z => absurd z.1 (by decide))]; exact k26
  have k39 : OB w4 q4 8 := by rw [hw4]; exact k27
  have k40 : mN w4 q4 = 8 := by rw [hw4]; exact k28
  have k41 : ∀ i, mA w4 q4 i = 0 := by rw [hw4]; exact k29
  have k42 : mR w4 228 d = some q4 := by rw [hw4, gR_setR, if_pos ⟨rfl, rfl⟩]
  have F4 : Ext u0 w4 := by rw [hw4]; exact (F3.tr X4).setR hd0 _ _
  have G4 : NDf u0 w4 (q4 :: (q3 :: [])) := by rw [hw4]; exact D4
  clear hv4 hw4 X4 D4
  refine ⟨by omega, by omega, fun q5 hq5 v5 hv5 => ?_⟩
  have q05 := F4.nin hq5
  have X5 : Ext w4 v5 := by rw [hv5]; exact Ext.rf.new hq5
  have k43 : OB v5 d 7 := X5.ob k30
  have k44 : mI v5 225 d = 0 := by rw [(X5 _ k30.1).2.2.2.1]; exact k31
  have k45 : mI v5 226 d = 0 := by rw [(X5 _ k30.1).2.2.2.1]; exact k32
  have k46 : mI v5 234 d = 0 := by rw [(X5 _ k30.1).2.2.2.1]; exact k33
  have k47 : mI v5 241 d = 0 := by rw [(X5 _ k30.1).2.2.2.1]; exact k34
  have k48 : OB v5 q3 8 := X5.ob k35
  have k49 : mN v5 q3 = 8 := by rw [(X5 _ k35.1).2.2.1]; exact k36
  have k50 : ∀ i, mA v5 q3 i = 0 := fun i => by rw [(X5 _ k35.1).2.2.2.2.2.1]; exact k37 i
  have k51 : mR v5 227 d = some q3 := by rw [(X5 _ k30.1).2.2.2.2.1]; exact k38
  have k52 : OB v5 q4 8 := X5.ob k39
  have k53 : mN v5 q4 = 8 := by rw [(X5 _ k39.1).2.2.1]; exact k40
  have k54 : ∀ i, mA v5 q4 i = 0 := fun i => by rw [(X5 _ k39.1).2.2.2.2.2.1]; exact k41 i
  have k55 : mR v5 228 d = some q4 := by rw [(X5 _ k30.1).2.2.2.2.1]; exact k42
  have k56 : OB v5 q5 9 := by rw [hv5]; exact (gO_self : OB (mNew w4 q5 9 8) q5 9)
  have k57 : mN v5 q5 = 8 := by rw [hv5, gN_mNew, if_pos rfl]
  have k58 : ∀ i, mA v5 q5 i = 0 := fun i => by rw [hv5, gA_mNew, if_pos rfl]
  have D5 : NDf u0 v5 (q5 :: (q4 :: (q3 :: []))) := NDf_c G4 hq5 X5 k56.1 q05
  refine ⟨k43, fun w5 hw5 => ?_⟩
  have k59 : OB w5 d 7 := by rw [hw5]; exact k43
  have k60 : mI w5 225 d = 0 := by rw [hw5]; exact k44
  have k61 : mI w5 226 d = 0 := by rw [hw5]; exact k45
  have k62 : mI w5 234 d = 0 := by rw [hw5]; exact k46
  have k63 : mI w5 241 d = 0 := by rw [hw5]; exact k47
  have k64 : OB w5 q3 8 := by rw [hw5]; exact k48
  have k65 : mN w5 q3 = 8 := by rw [hw5]; exact k49
  have k66 : ∀ i, mA w5 q3 i = 0 := by rw [hw5]; exact k50
  have k67 : mR w5 227 d = some q3 := by rw [hw5, gR_setR, if_neg (fun z => absurd z.1 (by decide))]; exact k51
  have k68 : OB w5 q4 8 := by rw [hw5]; exact k52
  have k69 : mN w5 q4 = 8 := by rw [hw5]; exact k53
  have k70 : ∀ i, mA w5 q4 i = 0 := by rw [hw5]; exact k54
  have k71 : mR w5 228 d = some q4 := by rw [hw5, gR_setR, if_neg (fun z => absurd z.1 (by decide))]; exact k55
  have k72 : OB w5 q5 9 := by rw [hw5]; exact k56
  have k73 : mN w5 q5 = 8 := by rw [hw5]; exact k57
  have k74 : ∀ i, mA w5 q5 i = 0 := by rw [hw5]; exact k58
  have k75 : mR w5 229 d = some q5 := by rw [hw5, gR_setR, if_pos ⟨rfl, rfl⟩]
  have F5 : Ext u0 w5 := by rw [hw5]; exact (F4.tr X5).setR hd0 _ _
  have G5 : NDf u0 w5 (q5 :: (q4 :: (q3 :: []))) := by rw [hw5]; exact D5
  clear hv5 hw5 X5 D5
  refine ⟨by omega, by omega, fun q6 hq6 v6 hv6 => ?_⟩
  have q06 := F5.nin hq6
  have X6 : Ext w5 v6 := by rw [hv6]; exact Ext.rf.new hq6
  have k76 : OB v6 d 7 := X6.ob k59
  have k77 : mI v6 225 d = 0 := by rw [(X6 _ k59.1).2.2.2.1]; exact k60
  have k78 : mI v6 226 d = 0 := by rw [(X6 _ k59.1).2.2.2.1]; exact k61
  have k79 : mI v6 234 d = 0 := by rw [(X6 _ k59.1).2.2.2.1]; exact k62
  have k80 : mI v6 241 d = 0 := by rw [(X6 _ k59.1).2.2.2.1]; exact k63
  have k81 : OB v6 q3 8 := X6.ob k64
  have k82 : mN v6 q3 = 8 := by rw [(X6 _ k64.1).2.2.1]; exact k65
  have k83 : ∀ i, mA v6 q3 i = 0 := fun i => by rw [(X6 _ k64.1).2.2.2.2.2.1]; exact k66 i
  have k84 : mR v6 227 d = some q3 := by rw [(X6 _ k59.1).2.2.2.2.1]; exact k67
  have k85 : OB v6 q4 8 := X6.ob k68
  have k86 : mN v6 q4 = 8 := by rw [(X6 _ k68.1).2.2.1]; exact k69
  have k87 : ∀ i, mA v6 q4 i = 0 := fun i => by rw [(X6 _ k68.1).2.2.2.2.2.1]; exact k70 i
  have k88 : mR v6 228 d = some q4 := by rw [(X6 _ k59.1).2.2.2.2.1]; exact k71
  have k89 : OB v6 q5 9 := X6.ob k72
  have k90 : mN v6 q5 = 8 := by rw [(X6 _ k72.1).2.2.1]; exact k73
  have k91 : ∀ i, mA v6 q5 i = 0 := fun i => by rw [(X6 _ k72.1).2.2.2.2.2.1]; exact k74 i
  have k92 : mR v6 229 d = some q5 := by rw [(X6 _ k59.1).2.2.2.2.1]; exact k75
  have k93 : OB v6 q6 8 := by rw [hv6]; exact (gO_self : OB (mNew w5 q6 8 24) q6 8)
  have k94 : mN v6 q6 = 24 := by rw [hv6, gN_mNew, if_pos rfl]
  have k95 : ∀ i, mA v6 q6 i = 0 := fun i => by rw [hv6, gA_mNew, if_pos rfl]
  have D6 : NDf u0 v6 (q6 :: (q5 :: (q4 :: (q3 :: [])))) := NDf_c G5 hq6 X6 k93.1 q06
  refine ⟨k76, fun w6 hw6 => ?_⟩
  have k96 : OB w6 d 7 := by rw [hw6]; exact k76
  have k97 : mI w6 225 d = 0 := by rw [hw6]; exact k77
  have k98 : mI w6 226 d = 0 := by rw [hw6]; exact k78
  have k99 : mI w6 234 d = 0 := by rw [hw6]; exact k79
  have k100 : mI w6 241 d = 0 := by rw [hw6]; exact k80
  have k101 : OB w6 q3 8 := by rw [hw6]; exact k81
  have k102 : mN w6 q3 = 8 := by rw [hw6]; exact k82
  have k103 : ∀ i, mA w6 q3 i = 0 := by rw [hw6]; exact k83
  have k104 : mR w6 227 d = some q3 := by rw [hw6, gR_setR, if_neg (fun z => absurd z.1 (by decide))]; exact k84
  have k105 : OB w6 q4 8 := by rw [hw6]; exact k85
  have k106 : mN w6 q4 = 8 := by rw [hw6]; exact k86
  have k107 : ∀ i, mA w6 q4 i = 0 := by rw [hw6]; exact k87
  have k108 : mR w6 228 d = some q4 := by rw [hw6, gR_setR, if_neg (fun z => absurd z.1 (by decide))]; exact k88
  have k109 : OB w6 q5 9 := by rw [hw6]; exact k89
  have k110 : mN w6 q5 = 8 := by rw [hw6]; exact k90
  have k111 : ∀ i, mA w6 q5 i = 0 := by rw [hw6]; exact k91
  have k112 : mR w6 229 d = some q5 := by rw [hw6, gR_setR, if_neg (fun z => absurd z.1 (by decide))]; exact k92
  have k113 : OB w6 q6 8 := by rw [hw6]; exact k93
  have k114 : mN w6 q6 = 24 := by rw [hw6]; exact k94
  have k115 : ∀ i, mA w6 q6 i = 0 := by rw [hw6]; exact k95
  have k116 : mR w6 230 d = some q6 := by rw [hw6, gR_setR, if_pos ⟨rfl, rfl⟩]
  have F6 : Ext u0 w6 := by rw [hw6]; exact (F5.tr X6).setR hd0 _ _
  have G6 : NDf u0 w6 (q6 :: (q5 :: (q4 :: (q3 :: [])))) := by rw [hw6]; exact D6
  clear hv6 hw6 X6 D6
  refine ⟨by omega, by omega, fun q7 hq7 v7 hv7 => ?_⟩
  have q07 := F6.nin hq7
  have X7 : Ext w6 v7 := by rw [hv7]; exact Ext.rf.new hq7
  have k117 : OB v7 d 7 := X7.ob k96
  have k118 : mI v7 225 d = 0 := by rw [(X7 _ k96.1).2.2.2.1]; exact k97
  have k119 : mI v7 226 d = 0 := by rw [(X7 _ k96.1).2.2.2.1]; exact k98
  have k120 : mI v7 234 d = 0 := by rw [(X7 _ k96.1).2.2.2.1]; exact k99
  have k121 : mI v7 241 d = 0 := by rw [(X7 _ k96.1).2.2.2.1]; exact k100
  have k122 : OB v7 q3 8 := X7.ob k101
  have k123 : mN v7 q3 = 8 := by rw [(X7 _ k101.1).2.2.1]; exact k102
  have k124 : ∀ i, mA v7 q3 i = 0 := fun i => by rw [(X7 _ k101.1).2.2.2.2.2.1]; exact k103 i
  have k125 : mR v7 227 d = some q3 := by rw [(X7 _ k96.1).2.2.2.2.1]; exact k104
  have k126 : OB v7 q4 8 := X7.ob k105
  have k127 : mN v7 q4 = 8 := by rw [(X7 _ k105.1).2.2.1]; exact k106
  have k128 : ∀ i, mA v7 q4 i = 0 := fun i => by rw [(X7 _ k105.1).2.2.2.2.2.1]; exact k107 i
  have k129 : mR v7 228 d = some q4 := by rw [(X7 _ k96.1).2.2.2.2.1]; exact k108
  have k130 : OB v7 q5 9 := X7.ob k109
  have k131 : mN v7 q5 = 8 := by rw [(X7 _ k109.1).2.2.1]; exact k110
  have k132 : ∀ i, mA v7 q5 i = 0 := fun i => by rw [(X7 _ k109.1).2.2.2.2.2.1]; exact k111 i
  have k133 : mR v7 229 d = some q5 := by rw [(X7 _ k96.1).2.2.2.2.1]; exact k112
  have k134 : OB v7 q6 8 := X7.ob k113
  have k135 : mN v7 q6 = 24 := by rw [(X7 _ k113.1).2.2.1]; exact k114
  have k136 : ∀ i, mA v7 q6 i = 0 := fun i => by rw [(X7 _ k113.1).2.2.2.2.2.1]; exact k115 i
  have k137 : mR v7 230 d = some q6 := by rw [(X7 _ k96.1).2.2.2.2.1]; exact k116
  have k138 : OB v7 q7 8 := by rw [hv7]; exact (gO_self : OB (mNew w6 q7 8 4) q7 8)
  have k139 : mN v7 q7 = 4 := by rw [hv7, gN_mNew, if_pos rfl]
  have k140 : ∀ i, mA v7 q7 i = 0 := fun i => by rw [hv7, gA_mNew, if_pos rfl]
  have D7 : NDf u0 v7 (q7 :: (q6 :: (q5 :: (q4 :: (q3 :: []))))) := NDf_c G6 hq7 X7 k138.1 q07
  refine ⟨k117, fun w7 hw7 => ?_⟩
  have k141 : OB w7 d 7 := by rw [hw7]; exact k117
  have k142 : mI w7 225 d = 0 := by rw [hw7]; exact k118
  have k143 : mI w7 226 d = 0 := by rw [hw7]; exact k119
  have k144 : mI w7 234 d = 0 := by rw [hw7]; exact k120
  have k145 : mI w7 241 d = 0 := by rw [hw7]; exact k121
  have k146 : OB w7 q3 8 := by rw [hw7]; exact k122
  have k147 : mN w7 q3 = 8 := by rw [hw7]; exact k123
  have k148 : ∀ i, mA w7 q3 i = 0 := by rw [hw7]; exact k124
  have k149 : mR w7 227 d = some q3 := by rw [hw7, gR_setR, if_neg (fun z => absurd z.1 (by decide))]; exact k125
  have k150 : OB w7 q4 8 := by rw [hw7]; exact k126
  have k151 : mN w7 q4 = 8 := by rw [hw7]; exact k127
  have k152 : ∀ i, mA w7 q4 i = 0 := by rw [hw7]; exact k128
  have k153 : mR w7 228 d = some q4 := by rw [hw7, gR_setR, if_neg (fun z => absurd z.1 (by decide))]; exact k129
  have k154 : OB w7 q5 9 := by rw [hw7]; exact k130
  have k155 : mN w7 q5 = 8 := by rw [hw7]; exact k131
  have k156 : ∀ i, mA w7 q5 i = 0 := by rw [hw7]; exact k132
  have k157 : mR w7 229 d = some q5 := by rw [hw7, gR_setR, if_neg (fun z => absurd z.1 (by decide))]; exact k133
  have k158 : OB w7 q6 8 := by rw [hw7]; exact k134
  have k159 : mN w7 q6 = 24 := by rw [hw7]; exact k135
  have k160 : ∀ i, mA w7 q6 i = 0 := by rw [hw7]; exact k136
  have k161 : mR w7 230 d = some q6 := by rw [hw7, gR_setR, if_neg (fun z => absurd z.1 (by decide))]; exact k137
  have k162 : OB w7 q7 8 := by rw [hw7]; exact k138
  have k163 : mN w7 q7 = 4 := by rw [hw7]; exact k139
  have k164 : ∀ i, mA w7 q7 i = 0 := by rw [hw7]; exact k140
  have k165 : mR w7 231 d = some q7 := by rw [hw7, gR_setR, if_pos ⟨rfl, rfl⟩]
  have F7 : Ext u0 w7 := by rw [hw7]; exact (F6.tr X7).setR hd0 _ _
  have G7 : NDf u0 w7 (q7 :: (q6 :: (q5 :: (q4 :: (q3 :: []))))) := by rw [hw7]; exact D7
  clear hv7 hw7 X7 D7
  refine ⟨by omega, by omega, fun q8 hq8 v8 hv8 => ?_⟩
  have q08 := F7.nin hq8
  have X8 : Ext w7 v8 := by rw [hv8]; exact Ext.rf.new hq8
  have k166 : OB v8 d 7 := X8.ob k141
  have k167 : mI v8 225 d = 0 := by rw [(X8 _ k141.1).2.2.2.1]; exact k142
  have k168 : mI v8 226 d = 0 := by rw [(X8 _ k141.1).2.2.2.1]; exact k143
  have k169 : mI v8 234 d = 0 := by rw [(X8 _ k141.1).2.2.2.1]; exact k144
  have k170 : mI v8 241 d = 0 := by rw [(X8 _ k141.1).2.2.2.1]; exact k145
  have k171 : OB v8 q3 8 := X8.ob k146
  have k172 : mN v8 q3 = 8 := by rw [(X8 _ k146.1).2.2.1]; exact k147
  have k173 : ∀ i, mA v8 q3 i = 0 := fun i => by rw [(X8 _ k146.1).2.2.2.2.2.1]; exact k148 i
  have k174 : mR v8 227 d = some q3 := by rw [(X8 _ k141.1).2.2.2.2.1]; exact k149
  have k175 : OB v8 q4 8 := X8.ob k150
  have k176 : mN v8 q4 = 8 := by rw [(X8 _ k150.1).2.2.1]; exact k151
  have k177 : ∀ i, mA v8 q4 i = 0 := fun i => by rw [(X8 _ k150.1).2.2.2.2.2.1]; exact k152 i
  have k178 : mR v8 228 d = some q4 := by rw [(X8 _ k141.1).2.2.2.2.1]; exact k153
  have k179 : OB v8 q5 9 := X8.ob k154
  have k180 : mN v8 q5 = 8 := by rw [(X8 _ k154.1).2.2.1]; exact k155
  have k181 : ∀ i, mA v8 q5 i = 0 := fun i => by rw [(X8 _ k154.1).2.2.2.2.2.1]; exact k156 i
  have k182 : mR v8 229 d = some q5 := by rw [(X8 _ k141.1).2.2.2.2.1]; exact k157
  have k183 : OB v8 q6 8 := X8.ob k158
  have k184 : mN v8 q6 = 24 := by rw [(X8 _ k158.1).2.2.1]; exact k159
  have k185 : ∀ i, mA v8 q6 i = 0 := fun i => by rw [(X8 _ k158.1).2.2.2.2.2.1]; exact k160 i
  have k186 : mR v8 230 d = some q6 := by rw [(X8 _ k141.1).2.2.2.2.1]; exact k161
  have k187 : OB v8 q7 8 := X8.ob k162
  have k188 : mN v8 q7 = 4 := by rw [(X8 _ k162.1).2.2.1]; exact k163
  have k189 : ∀ i, mA v8 q7 i = 0 := fun i => by rw [(X8 _ k162.1).2.2.2.2.2.1]; exact k164 i
  have k190 : mR v8 231 d = some q7 := by rw [(X8 _ k141.1).2.2.2.2.1]; exact k165
  have k191 : OB v8 q8 8 := by rw [hv8]; exact (gO_self : OB (mNew w7 q8 8 4) q8 8)
  have k192 : mN v8 q8 = 4 := by rw [hv8, gN_mNew, if_pos rfl]
  have k193 : ∀ i, mA v8 q8 i = 0 := fun i => by rw [hv8, gA_mNew, if_pos rfl]
  have D8 : NDf u0 v8 (q8 :: (q7 :: (q6 :: (q5 :: (q4 :: (q3 :: [])))))) := NDf_c G7 hq8 X8 k191.1 q08
  refine ⟨k166, fun w8 hw8 => ?_⟩
  have k194 : OB w8 d 7 := by rw [hw8]; exact k166
  have k195 : mI w8 225 d = 0 := by rw [hw8]; exact k167
  have k196 : mI w8 226 d = 0 := by rw [hw8]; exact k168
  have k197 : mI w8 234 d = 0 := by rw [hw8]; exact k169
  have k198 : mI w8 241 d = 0 := by rw [hw8]; exact k170
  have k199 : OB w8 q3 8 := by rw [hw8]; exact k171
  have k200 : mN w8 q3 = 8 := by rw [hw8]; exact k172
  have k201 : ∀ i, mA w8 q3 i = 0 := by rw [hw8]; exact k173
  have k202 : mR w8 227 d = some q3 := by rw [hw8, gR_setR, if_neg (fun z => absurd z.1 (by decide))]; exact k174
  have k203 : OB w8 q4 8 := by rw [hw8]; exact k175
  have k204 : mN w8 q4 = 8 := by rw [hw8]; exact k176
  have k205 : ∀ i, mA w8 q4 i = 0 := by rw [hw8]; exact k177
  have k206 : mR w8 228 d = some q4 := by rw [hw8, gR_setR, if_neg (fun z => absurd z.1 (by decide))]; exact k178
  have k207 : OB w8 q5 9 := by rw [hw8]; exact k179
  have k208 : mN w8 q5 = 8 := by rw [hw8]; exact k180
  have k209 : ∀ i, mA w8 q5 i = 0 := by rw [hw8]; exact k181
  have k210 : mR w8 229 d = some q5 := by rw [hw8, gR_setR, if_neg (fun z => absurd z.1 (by decide))]; exact k182
  have k211 : OB w8 q6 8 := by rw [hw8]; exact k183
  have k212 : mN w8 q6 = 24 := by rw [hw8]; exact k184
  have k213 : ∀ i, mA w8 q6 i = 0 := by rw [hw8]; exact k185
  have k214 : mR w8 230 d = some q6 := by rw [hw8, gR_setR, if_neg (fun z => absurd z.1 (by decide))]; exact k186
  have k215 : OB w8 q7 8 := by rw [hw8]; exact k187
  have k216 : mN w8 q7 = 4 := by rw [hw8]; exact k188
  have k217 : ∀ i, mA w8 q7 i = 0 := by rw [hw8]; exact k189
  have k218 : mR w8 231 d = some q7 := by rw [hw8, gR_setR, if_neg (fun z => absurd z.1 (by decide))]; exact k190
  have k219 : OB w8 q8 8 := by rw [hw8]; exact k191
  have k220 : mN w8 q8 = 4 := by rw [hw8]; exact k192
  have k221 : ∀ i, mA w8 q8 i = 0 := by rw [hw8]; exact k193
  have k222 : mR w8 232 d = some q8 := by rw [hw8, gR_setR, if_pos ⟨rfl, rfl⟩]
  have F8 : Ext u0 w8 := by rw [hw8]; exact (F7.tr X8).setR hd0 _ _
  have G8 : NDf u0 w8 (q8 :: (q7 :: (q6 :: (q5 :: (q4 :: (q3 :: [])))))) := by rw [hw8]; exact D8
  clear hv8 hw8 X8 D8
  refine ⟨by omega, by omega, fun q9 hq9 v9 hv9 => ?_⟩
  have q09 := F8.nin hq9
  have X9 : Ext w8 v9 := by rw [hv9]; exact Ext.rf.new hq9
  have k223 : OB v9 d 7 := X9.ob k194
  have k224 : mI v9 225 d = 0 := by rw [(X9 _ k194.1).2.2.2.1]; exact k195
  have k225 : mI v9 226 d = 0 := by rw [(X9 _ k194.1).2.2.2.1]; exact k196
  have k226 : mI v9 234 d = 0 := by rw [(X9 _ k194.1).2.2.2.1]; exact k197
  have k227 : mI v9 241 d = 0 := by rw [(X9 _ k194.1).2.2.2.1]; exact k198
  have k228 : OB v9 q3 8 := X9.ob k199
  have k229 : mN v9 q3 = 8 := by rw [(X9 _ k199.1).2.2.1]; exact k200
  have k230 : ∀ i, mA v9 q3 i = 0 := fun i => by rw [(X9 _ k199.1).2.2.2.2.2.1]; exact k201 i
  have k231 : mR v9 227 d = some q3 := by rw [(X9 _ k194.1).2.2.2.2.1]; exact k202
  have k232 : OB v9 q4 8 := X9.ob k203
  have k233 : mN v9 q4 = 8 := by rw [(X9 _ k203.1).2.2.1]; exact k204
  have k234 : ∀ i, mA v9 q4 i = 0 := fun i => by rw [(X9 _ k203.1).2.2.2.2.2.1]; exact k205 i
  have k235 : mR v9 228 d = some q4 := by rw [(X9 _ k194.1).2.2.2.2.1]; exact k206
  have k236 : OB v9 q5 9 := X9.ob k207
  have k237 : mN v9 q5 = 8 := by rw [(X9 _ k207.1).2.2.1]; exact k208
  have k238 : ∀ i, mA v9 q5 i = 0 := fun i => by rw [(X9 _ k207.1).2.2.2.2.2.1]; exact k209 i
  have k239 : mR v9 229 d = some q5 := by rw [(X9 _ k194.1).2.2.2.2.1]; exact k210
  have k240 : OB v9 q6 8 := X9.ob k211
  have k241 : mN v9 q6 = 24 := by rw [(X9 _ k211.1).2.2.1]; exact k212
  have k242 : ∀ i, mA v9 q6 i = 0 := fun i => by rw [(X9 _ k211.1).2.2.2.2.2.1]; exact k213 i
  have k243 : mR v9 230 d = some q6 := by rw [(X9 _ k194.1).2.2.2.2.1]; exact k214
  have k244 : OB v9 q7 8 := X9.ob k215
  have k245 : mN v9 q7 = 4 := by rw [(X9 _ k215.1).2.2.1]; exact k216
  have k246 : ∀ i, mA v9 q7 i = 0 := fun i => by rw [(X9 _ k215.1).2.2.2.2.2.1]; exact k217 i
  have k247 : mR v9 231 d = some q7 := by rw [(X9 _ k194.1).2.2.2.2.1]; exact k218
  have k248 : OB v9 q8 8 := X9.ob k219
  have k249 : mN v9 q8 = 4 := by rw [(X9 _ k219.1).2.2.1]; exact k220
  have k250 : ∀ i, mA v9 q8 i = 0 := fun i => by rw [(X9 _ k219.1).2.2.2.2.2.1]; exact k221 i
  have k251 : mR v9 232 d = some q8 := by rw [(X9 _ k194.1).2.2.2.2.1]; exact k222
  have k252 : OB v9 q9 9 := by rw [hv9]; exact (gO_self : OB (mNew w8 q9 9 4) q9 9)
  have k253 : mN v9 q9 = 4 := by rw [hv9, gN_mNew, if_pos rfl]
  have k254 : ∀ i, mA v9 q9 i = 0 := fun i => by rw [hv9, gA_mNew, if_pos rfl]
  have D9 : NDf u0 v9 (q9 :: (q8 :: (q7 :: (q6 :: (q5 :: (q4 :: (q3 :: []))))))) := NDf_c G8 hq9 X9 k252.1 q09
  refine ⟨k223, fun w9 hw9 => ?_⟩
  have k255 : OB w9 d 7 := by rw [hw9]; exact k223
  have k256 : mI w9 225 d = 0 := by rw [hw9]; exact k224
  have k257 : mI w9 226 d = 0 := by rw [hw9]; exact k225
  have k258 : mI w9 234 d = 0 := by rw [hw9]; exact k226
  have k259 : mI w9 241 d = 0 := by rw [hw9]; exact k227
  have k260 : OB w9 q3 8 := by rw [hw9]; exact k228
  have k261 : mN w9 q3 = 8 := by rw [hw9]; exact k229
  have k262 : ∀ i, mA w9 q3 i = 0 := by rw [hw9]; exact k230
  have k263 : mR w9 227 d = some q3 := by rw [hw9, gR_setR, if_neg (fun z => absurd z.1 (by decide))]; exact k231
  have k264 : OB w9 q4 8 := by rw [hw9]; exact k232
  have k265 : mN w9 q4 = 8 := by rw [hw9]; exact k233
  have k266 : ∀ i, mA w9 q4 i = 0 := by rw [hw9]; exact k234
  have k267 : mR w9 228 d = some q4 := by rw [hw9, gR_setR, if_neg (fun z => absurd z.1 (by decide))]; exact k235
  have k268 : OB w9 q5 9 := by rw [hw9]; exact k236
  have k269 : mN w9 q5 = 8 := by rw [hw9]; exact k237
  have k270 : ∀ i, mA w9 q5 i = 0 := by rw [hw9]; exact k238
  have k271 : mR w9 229 d = some q5 := by rw [hw9, gR_setR, if_neg (fun z => absurd z.1 (by decide))]; exact k239
  have k272 : OB w9 q6 8 := by rw [hw9]; exact k240
  have k273 : mN w9 q6 = 24 := by rw [hw9]; exact k241
  have k274 : ∀ i, mA w9 q6 i = 0 := by rw [hw9]; exact k242
  have k275 : mR w9 230 d = some q6 := by rw [hw9, gR_setR, if_neg (fun z => absurd z.1 (by decide))]; exact k243
  have k276 : OB w9 q7 8 := by rw [hw9]; exact k244
  have k277 : mN w9 q7 = 4 := by rw [hw9]; exact k245
  have k278 : ∀ i, mA w9 q7 i = 0 := by rw [hw9]; exact k246
  have k279 : mR w9 231 d = some q7 := by rw [hw9, gR_setR, if_neg (fun z => absurd z.1 (by decide))]; exact k247
  have k280 : OB w9 q8 8 := by rw [hw9]; exact k248
  have k281 : mN w9 q8 = 4 := by rw [hw9]; exact k249
  have k282 : ∀ i, mA w9 q8 i = 0 := by rw [hw9]; exact k250
  have k283 : mR w9 232 d = some q8 := by rw [hw9, gR_setR, if_neg (fun z => absurd z.1 (by decide))]; exact k251
  have k284 : OB w9 q9 9 := by rw [hw9]; exact k252
  have k285 : mN w9 q9 = 4 := by rw [hw9]; exact k253
  have k286 : ∀ i, mA w9 q9 i = 0 := by rw [hw9]; exact k254
  have k287 : mR w9 233 d = some q9 := by rw [hw9, gR_setR, if_pos ⟨rfl, rfl⟩]
  have F9 : Ext u0 w9 := by rw [hw9]; exact (F8.tr X9).setR hd0 _ _
  have G9 : NDf u0 w9 (q9 :: (q8 :: (q7 :: (q6 :: (q5 :: (q4 :: (q3 :: []))))))) := by rw [hw9]; exact D9
  clear hv9 hw9 X9 D9
  refine ⟨by omega, by omega, fun q11 hq11 v11 hv11 => ?_⟩
  have q011 := F9.nin hq11
  have X11 : Ext w9 v11 := by rw [hv11]; exact Ext.rf.new hq11
  have k288 : OB v11 d 7 := X11.ob k255
  have k289 : mI v11 225 d = 0 := by rw [(X11 _ k255.1).2.2.2.1]; exact k256
  have k290 : mI v11 226 d = 0 := by rw [(X11 _ k255.1).2.2.2.1]; exact k257
  have k291 : mI v11 234 d = 0 := by rw [(X11 _ k255.1).2.2.2.1]; exact k258
  have k292 : mI v11 241 d = 0 := by rw [(X11 _ k255.1).2.2.2.1]; exact k259
  have k293 : OB v11 q3 8 := X11.ob k260
  have k294 : mN v11 q3 = 8 := by rw [(X11 _ k260.1).2.2.1]; exact k261
  have k295 : ∀ i, mA v11 q3 i = 0 := fun i => by rw [(X11 _ k260.1).2.2.2.2.2.1]; exact k262 i
  have k296 : mR v11 227 d = some q3 := by rw [(X11 _ k255.1).2.2.2.2.1]; exact k263
  have k297 : OB v11 q4 8 := X11.ob k264
  have k298 : mN v11 q4 = 8 := by rw [(X11 _ k264.1).2.2.1]; exact k265
  have k299 : ∀ i, mA v11 q4 i = 0 := fun i => by rw [(X11 _ k264.1).2.2.2.2.2.1]; exact k266 i
  have k300 : mR v11 228 d = some q4 := by rw [(X11 _ k255.1).2.2.2.2.1]; exact k267
  have k301 : OB v11 q5 9 := X11.ob k268
  have k302 : mN v11 q5 = 8 := by rw [(X11 _ k268.1).2.2.1]; exact k269
  have k303 : ∀ i, mA v11 q5 i = 0 := fun i => by rw [(X11 _ k268.1).2.2.2.2.2.1]; exact k270 i
  have k304 : mR v11 229 d = some q5 := by rw [(X11 _ k255.1).2.2.2.2.1]; exact k271
  have k305 : OB v11 q6 8 := X11.ob k272
  have k306 : mN v11 q6 = 24 := by rw [(X11 _ k272.1).2.2.1]; exact k273
  have k307 : ∀ i, mA v11 q6 i = 0 := fun i => by rw [(X11 _ k272.1).2.2.2.2.2.1]; exact k274 i
  have k308 : mR v11 230 d = some q6 := by rw [(X11 _ k255.1).2.2.2.2.1]; exact k275
  have k309 : OB v11 q7 8 := X11.ob k276
  have k310 : mN v11 q7 = 4 := by rw [(X11 _ k276.1).2.2.1]; exact k277
  have k311 : ∀ i, mA v11 q7 i = 0 := fun i => by rw [(X11 _ k276.1).2.2.2.2.2.1]; exact k278 i
  have k312 : mR v11 231 d = some q7 := by rw [(X11 _ k255.1).2.2.2.2.1]; exact k279
  have k313 : OB v11 q8 8 := X11.ob k280
  have k314 : mN v11 q8 = 4 := by rw [(X11 _ k280.1).2.2.1]; exact k281
  have k315 : ∀ i, mA v11 q8 i = 0 := fun i => by rw [(X11 _ k280.1).2.2.2.2.2.1]; exact k282 i
  have k316 : mR v11 232 d = some q8 := by rw [(X11 _ k255.1).2.2.2.2.1]; exact k283
  have k317 : OB v11 q9 9 := X11.ob k284
  have k318 : mN v11 q9 = 4 := by rw [(X11 _ k284.1).2.2.1]; exact k285
  have k319 : ∀ i, mA v11 q9 i = 0 := fun i => by rw [(X11 _ k284.1).2.2.2.2.2.1]; exact k286 i
  have k320 : mR v11 233 d = some q9 := by rw [(X11 _ k255.1).2.2.2.2.1]; exact k287
  have k321 : OB v11 q11 8 := by rw [hv11]; exact (gO_self : OB (mNew w9 q11 8 60) q11 8)
  have k322 : mN v11 q11 = 60 := by rw [hv11, gN_mNew, if_pos rfl]
  have k323 : ∀ i, mA v11 q11 i = 0 := fun i => by rw [hv11, gA_mNew, if_pos rfl]
  have D11 : NDf u0 v11 (q11 :: (q9 :: (q8 :: (q7 :: (q6 :: (q5 :: (q4 :: (q3 :: [])))))))) := NDf_c G9 hq11 X11 k321.1 q011
  refine ⟨k288, fun w11 hw11 => ?_⟩
  have k324 : OB w11 d 7 := by rw [hw11]; exact k288
  have k325 : mI w11 225 d = 0 := by rw [hw11]; exact k289
  have k326 : mI w11 226 d = 0 := by rw [hw11]; exact k290
  have k327 : mI w11 234 d = 0 := by rw [hw11]; exact k291
  have k328 : mI w11 241 d = 0 := by rw [hw11]; exact k292
  have k329 : OB w11 q3 8 := by rw [hw11]; exact k293
  have k330 : mN w11 q3 = 8 := by rw [hw11]; exact k294
  have k331 : ∀ i, mA w11 q3 i = 0 := by rw [hw11]; exact k295
  have k332 : mR w11 227 d = some q3 := by rw [hw11, gR_setR, if_neg (fun z => absurd z.1 (by decide))]; exact k296
  have k333 : OB w11 q4 8 := by rw [hw11]; exact k297
  have k334 : mN w11 q4 = 8 := by rw [hw11]; exact k298
  have k335 : ∀ i, mA w11 q4 i = 0 := by rw [hw11]; exact k299
  have k336 : mR w11 228 d = some q4 := by rw [hw11, gR_setR, if_neg (fun z => absurd z.1 (by decide))]; exact k300
  have k337 : OB w11 q5 9 := by rw [hw11]; exact k301
  have k338 : mN w11 q5 = 8 := by rw [hw11]; exact k302
  have k339 : ∀ i, mA w11 q5 i = 0 := by rw [hw11]; exact k303
  have k340 : mR w11 229 d = some q5 := by rw [hw11, gR_setR, if_neg (fun z => absurd z.1 (by decide))]; exact k304
  have k341 : OB w11 q6 8 := by rw [hw11]; exact k305
  have k342 : mN w11 q6 = 24 := by rw [hw11]; exact k306
  have k343 : ∀ i, mA w11 q6 i = 0 := by rw [hw11]; exact k307
  have k344 : mR w11 230 d = some q6 := by rw [hw11, gR_setR, if_neg (fun z => absurd z.1 (by decide))]; exact k308
  have k345 : OB w11 q7 8 := by rw [hw11]; exact k309
  have k346 : mN w11 q7 = 4 := by rw [hw11]; exact k310
  have k347 : ∀ i, mA w11 q7 i = 0 := by rw [hw11]; exact k311
  have k348 : mR w11 231 d = some q7 := by rw [hw11, gR_setR, if_neg (fun z => absurd z.1 (by decide))]; exact k312
  have k349 : OB w11 q8 8 := by rw [hw11]; exact k313
  have k350 : mN w11 q8 = 4 := by rw [hw11]; exact k314
  have k351 : ∀ i, mA w11 q8 i = 0 := by rw [hw11]; exact k315
  have k352 : mR w11 232 d = some q8 := by rw [hw11, gR_setR, if_neg (fun z => absurd z.1 (by decide))]; exact k316
  have k353 : OB w11 q9 9 := by rw [hw11]; exact k317
  have k354 : mN w11 q9 = 4 := by rw [hw11]; exact k318
  have k355 : ∀ i, mA w11 q9 i = 0 := by rw [hw11]; exact k319
  have k356 : mR w11 233 d = some q9 := by rw [hw11, gR_setR, if_neg (fun z => absurd z.1 (by decide))]; exact k320
  have k357 : OB w11 q11 8 := by rw [hw11]; exact k321
  have k358 : mN w11 q11 = 60 := by rw [hw11]; exact k322
  have k359 : ∀ i, mA w11 q11 i = 0 := by rw [hw11]; exact k323
  have k360 : mR w11 235 d = some q11 := by rw [hw11, gR_setR, if_pos ⟨rfl, rfl⟩]
  have F11 : Ext u0 w11 := by rw [hw11]; exact (F9.tr X11).setR hd0 _ _
  have G11 : NDf u0 w11 (q11 :: (q9 :: (q8 :: (q7 :: (q6 :: (q5 :: (q4 :: (q3 :: [])))))))) := by rw [hw11]; exact D11
  clear hv11 hw11 X11 D11
  refine ⟨by omega, by omega, fun q12 hq12 v12 hv12 => ?_⟩
  have q012 := F11.nin hq12
  have X12 : Ext w11 v12 := by rw [hv12]; exact Ext.rf.new hq12
  have k361 : OB v12 d 7 := X12.ob k324
  have k362 : mI v12 225 d = 0 := by rw [(X12 _ k324.1).2.2.2.1]; exact k325
  have k363 : mI v12 226 d = 0 := by rw [(X12 _ k324.1).2.2.2.1]; exact k326
  have k364 : mI v12 234 d = 0 := by rw [(X12 _ k324.1).2.2.2.1]; exact k327
  have k365 : mI v12 241 d = 0 := by rw [(X12 _ k324.1).2.2.2.1]; exact k328
  have k366 : OB v12 q3 8 := X12.ob k329
  have k367 : mN v12 q3 = 8 := by rw [(X12 _ k329.1).2.2.1]; exact k330
  have k368 : ∀ i, mA v12 q3 i = 0 := fun i => by rw [(X12 _ k329.1).2.2.2.2.2.1]; exact k331 i
  have k369 : mR v12 227 d = some q3 := by rw [(X12 _ k324.1).2.2.2.2.1]; exact k332
  have k370 : OB v12 q4 8 := X12.ob k333
  have k371 : mN v12 q4 = 8 := by rw [(X12 _ k333.1).2.2.1]; exact k334
  have k372 : ∀ i, mA v12 q4 i = 0 := fun i => by rw [(X12 _ k333.1).2.2.2.2.2.1]; exact k335 i
  have k373 : mR v12 228 d = some q4 := by rw [(X12 _ k324.1).2.2.2.2.1]; exact k336
  have k374 : OB v12 q5 9 := X12.ob k337
  have k375 : mN v12 q5 = 8 := by rw [(X12 _ k337.1).2.2.1]; exact k338
  have k376 : ∀ i, mA v12 q5 i = 0 := fun i => by rw [(X12 _ k337.1).2.2.2.2.2.1]; exact k339 i
  have k377 : mR v12 229 d = some q5 := by rw [(X12 _ k324.1).2.2.2.2.1]; exact k340
  have k378 : OB v12 q6 8 := X12.ob k341
  have k379 : mN v12 q6 = 24 := by rw [(X12 _ k341.1).2.2.1]; exact k342
  have k380 : ∀ i, mA v12 q6 i = 0 := fun i => by rw [(X12 _ k341.1).2.2.2.2.2.1]; exact k343 i
  have k381 : mR v12 230 d = some q6 := by rw [(X12 _ k324.1).2.2.2.2.1]; exact k344
  have k382 : OB v12 q7 8 := X12.ob k345
  have k383 : mN v12 q7 = 4 := by rw [(X12 _ k345.1).2.2.1]; exact k346
  have k384 : ∀ i, mA v12 q7 i = 0 := fun i => by rw [(X12 _ k345.1).2.2.2.2.2.1]; exact k347 i
  have k385 : mR v12 231 d = some q7 := by rw [(X12 _ k324.1).2.2.2.2.1]; exact k348
  have k386 : OB v12 q8 8 := X12.ob k349
  have k387 : mN v12 q8 = 4 := by rw [(X12 _ k349.1).2.2.1]; exact k350
  have k388 : ∀ i, mA v12 q8 i = 0 := fun i => by rw [(X12 _ k349.1).2.2.2.2.2.1]; exact k351 i
  have k389 : mR v12 232 d = some q8 := by rw [(X12 _ k324.1).2.2.2.2.1]; exact k352
  have k390 : OB v12 q9 9 := X12.ob k353
  have k391 : mN v12 q9 = 4 := by rw [(X12 _ k353.1).2.2.1]; exact k354
  have k392 : ∀ i, mA v12 q9 i = 0 := fun i => by rw [(X12 _ k353.1).2.2.2.2.2.1]; exact k355 i
  have k393 : mR v12 233 d = some q9 := by rw [(X12 _ k324.1).2.2.2.2.1]; exact k356
  have k394 : OB v12 q11 8 := X12.ob k357
  have k395 : mN v12 q11 = 60 := by rw [(X12 _ k357.1).2.2.1]; exact k358
  have k396 : ∀ i, mA v12 q11 i = 0 := fun i => by rw [(X12 _ k357.1).2.2.2.2.2.1]; exact k359 i
  have k397 : mR v12 235 d = some q11 := by rw [(X12 _ k324.1).2.2.2.2.1]; exact k360
  have k398 : OB v12 q12 8 := by rw [hv12]; exact (gO_self : OB (mNew w11 q12 8 60) q12 8)
  have k399 : mN v12 q12 = 60 := by rw [hv12, gN_mNew, if_pos rfl]
  have k400 : ∀ i, mA v12 q12 i = 0 := fun i => by rw [hv12, gA_mNew, if_pos rfl]
  have D12 : NDf u0 v12 (q12 :: (q11 :: (q9 :: (q8 :: (q7 :: (q6 :: (q5 :: (q4 :: (q3 :: []))))))))) := NDf_c G11 hq12 X12 k398.1 q012
  refine ⟨k361, fun w12 hw12 => ?_⟩
  have k401 : OB w12 d 7 := by rw [hw12]; exact k361
  have k402 : mI w12 225 d = 0 := by rw [hw12]; exact k362
  have k403 : mI w12 226 d = 0 := by rw [hw12]; exact k363
  have k404 : mI w12 234 d = 0 := by rw [hw12]; exact k364
  have k405 : mI w12 241 d = 0 := by rw [hw12]; exact k365
  have k406 : OB w12 q3 8 := by rw [hw12]; exact k366
  have k407 : mN w12 q3 = 8 := by rw [hw12]; exact k367
  have k408 : ∀ i, mA w12 q3 i = 0 := by rw [hw12]; exact k368
  have k409 : mR w12 227 d = some q3 := by rw [hw12, gR_setR, if_neg (fun z => absurd z.1 (by decide))]; exact k369
  have k410 : OB w12 q4 8 := by rw [hw12]; exact k370
  have k411 : mN w12 q4 = 8 := by rw [hw12]; exact k371
  have k412 : ∀ i, mA w12 q4 i = 0 := by rw [hw12]; exact k372
  have k413 : mR w12 228 d = some q4 := by rw [hw12, gR_setR, if_neg (fun z => absurd z.1 (by decide))]; exact k373
  have k414 : OB w12 q5 9 := by rw [hw12]; exact k374
  have k415 : mN w12 q5 = 8 := by rw [hw12]; exact k375
  have k416 : ∀ i, mA w12 q5 i = 0 := by rw [hw12]; exact k376
  have k417 : mR w12 229 d = some q5 := by rw [hw12, gR_setR, if_neg (fun z => absurd z.1 (by decide))]; exact k377
  have k418 : OB w12 q6 8 := by rw [hw12]; exact k378
  have k419 : mN w12 q6 = 24 := by rw [hw12]; exact k379
  have k420 : ∀ i, mA w12 q6 i = 0 := by rw [hw12]; exact k380
  have k421 : mR w12 230 d = some q6 := by rw [hw12, gR_setR, if_neg (fun z => absurd z.1 (by decide))]; exact k381
  have k422 : OB w12 q7 8 := by rw [hw12]; exact k382
  have k423 : mN w12 q7 = 4 := by rw [hw12]; exact k383
  have k424 : ∀ i, mA w12 q7 i = 0 := by rw [hw12]; exact k384
  have k425 : mR w12 231 d = some q7 := by rw [hw12, gR_setR, if_neg (fun z => absurd z.1 (by decide))]; exact k385
  have k426 : OB w12 q8 8 := by rw [hw12]; exact k386
  have k427 : mN w12 q8 = 4 := by rw [hw12]; exact k387
  have k428 : ∀ i, mA w12 q8 i = 0 := by rw [hw12]; exact k388
  have k429 : mR w12 232 d = some q8 := by rw [hw12, gR_setR, if_neg (fun z => absurd z.1 (by decide))]; exact k389
  have k430 : OB w12 q9 9 := by rw [hw12]; exact k390
  have k431 : mN w12 q9 = 4 := by rw [hw12]; exact k391
  have k432 : ∀ i, mA w12 q9 i = 0 := by rw [hw12]; exact k392
  have k433 : mR w12 233 d = some q9 := by rw [hw12, gR_setR, if_neg (fun z => absurd z.1 (by decide))]; exact k393
  have k434 : OB w12 q11 8 := by rw [hw12]; exact k394
  have k435 : mN w12 q11 = 60 := by rw [hw12]; exact k395
  have k436 : ∀ i, mA w12 q11 i = 0 := by rw [hw12]; exact k396
  have k437 : mR w12 235 d = some q11 := by rw [hw12, gR_setR, if_neg (fun z => absurd z.1 (by decide))]; exact k397
  have k438 : OB w12 q12 8 := by rw [hw12]; exact k398
  have k439 : mN w12 q12 = 60 := by rw [hw12]; exact k399
  have k440 : ∀ i, mA w12 q12 i = 0 := by rw [hw12]; exact k400
  have k441 : mR w12 236 d = some q12 := by rw [hw12, gR_setR, if_pos ⟨rfl, rfl⟩]
  have F12 : Ext u0 w12 := by rw [hw12]; exact (F11.tr X12).setR hd0 _ _
  have G12 : NDf u0 w12 (q12 :: (q11 :: (q9 :: (q8 :: (q7 :: (q6 :: (q5 :: (q4 :: (q3 :: []))))))))) := by rw [hw12]; exact D12
  clear hv12 hw12 X12 D12
  refine ⟨by omega, by omega, fun q13 hq13 v13 hv13 => ?_⟩
  have q013 := F12.nin hq13
  have X13 : Ext w12 v13 := by rw [hv13]; exact Ext.rf.new hq13
  have k442 : OB v13 d 7 := X13.ob k401
  have k443 : mI v13 225 d = 0 := by rw [(X13 _ k401.1).2.2.2.1]; exact k402
  have k444 : mI v13 226 d = 0 := by rw [(X13 _ k401.1).2.2.2.1]; exact k403
  have k445 : mI v13 234 d = 0 := by rw [(X13 _ k401.1).2.2.2.1]; exact k404
  have k446 : mI v13 241 d = 0 := by rw [(X13 _ k401.1).2.2.2.1]; exact k405
  have k447 : OB v13 q3 8 := X13.ob k406
  have k448 : mN v13 q3 = 8 := by rw [(X13 _ k406.1).2.2.1]; exact k407
  have k449 : ∀ i, mA v13 q3 i = 0 := fun i => by rw [(X13 _ k406.1).2.2.2.2.2.1]; exact k408 i
  have k450 : mR v13 227 d = some q3 := by rw [(X13 _ k401.1).2.2.2.2.1]; exact k409
  have k451 : OB v13 q4 8 := X13.ob k410
  have k452 : mN v13 q4 = 8 := by rw [(X13 _ k410.1).2.2.1]; exact k411
  have k453 : ∀ i, mA v13 q4 i = 0 := fun i => by rw [(X13 _ k410.1).2.2.2.2.2.1]; exact k412 i
  have k454 : mR v13 228 d = some q4 := by rw [(X13 _ k401.1).2.2.2.2.1]; exact k413
  have k455 : OB v13 q5 9 := X13.ob k414
  have k456 : mN v13 q5 = 8 := by rw [(X13 _ k414.1).2.2.1]; exact k415
  have k457 : ∀ i, mA v13 q5 i = 0 := fun i => by rw [(X13 _ k414.1).2.2.2.2.2.1]; exact k416 i
  have k458 : mR v13 229 d = some q5 := by rw [(X13 _ k401.1).2.2.2.2.1]; exact k417
  have k459 : OB v13 q6 8 := X13.ob k418
  have k460 : mN v13 q6 = 24 := by rw [(X13 _ k418.1).2.2.1]; exact k419
  have k461 : ∀ i, mA v13 q6 i = 0 := fun i => by rw [(X13 _ k418.1).2.2.2.2.2.1]; exact k420 i
  have k462 : mR v13 230 d = some q6 := by rw [(X13 _ k401.1).2.2.2.2.1]; exact k421
  have k463 : OB v13 q7 8 := X13.ob k422
  have k464 : mN v13 q7 = 4 := by rw [(X13 _ k422.1).2.2.1]; exact k423
  have k465 : ∀ i, mA v13 q7 i = 0 := fun i => by rw [(X13 _ k422.1).2.2.2.2.2.1]; exact k424 i
  have k466 : mR v13 231 d = some q7 := by rw [(X13 _ k401.1).2.2.2.2.1]; exact k425
  have k467 : OB v13 q8 8 := X13.ob k426
  have k468 : mN v13 q8 = 4 := by rw [(X13 _ k426.1).2.2.1]; exact k427
  have k469 : ∀ i, mA v13 q8 i = 0 := fun i => by rw [(X13 _ k426.1).2.2.2.2.2.1]; exact k428 i
  have k470 : mR v13 232 d = some q8 := by rw [(X13 _ k401.1).2.2.2.2.1]; exact k429
  have k471 : OB v13 q9 9 := X13.ob k430
  have k472 : mN v13 q9 = 4 := by rw [(X13 _ k430.1).2.2.1]; exact k431
  have k473 : ∀ i, mA v13 q9 i = 0 := fun i => by rw [(X13 _ k430.1).2.2.2.2.2.1]; exact k432 i
  have k474 : mR v13 233 d = some q9 := by rw [(X13 _ k401.1).2.2.2.2.1]; exact k433
  have k475 : OB v13 q11 8 := X13.ob k434
  have k476 : mN v13 q11 = 60 := by rw [(X13 _ k434.1).2.2.1]; exact k435
  have k477 : ∀ i, mA v13 q11 i = 0 := fun i => by rw [(X13 _ k434.1).2.2.2.2.2.1]; exact k436 i
  have k478 : mR v13 235 d = some q11 := by rw [(X13 _ k401.1).2.2.2.2.1]; exact k437
  have k479 : OB v13 q12 8 := X13.ob k438
  have k480 : mN v13 q12 = 60 := by rw [(X13 _ k438.1).2.2.1]; exact k439
  have k481 : ∀ i, mA v13 q12 i = 0 := fun i => by rw [(X13 _ k438.1).2.2.2.2.2.1]; exact k440 i
  have k482 : mR v13 236 d = some q12 := by rw [(X13 _ k401.1).2.2.2.2.1]; exact k441
  have k483 : OB v13 q13 8 := by rw [hv13]; exact (gO_self : OB (mNew w12 q13 8 60) q13 8)
  have k484 : mN v13 q13 = 60 := by rw [hv13, gN_mNew, if_pos rfl]
  have k485 : ∀ i, mA v13 q13 i = 0 := fun i => by rw [hv13, gA_mNew, if_pos rfl]
  have D13 : NDf u0 v13 (q13 :: (q12 :: (q11 :: (q9 :: (q8 :: (q7 :: (q6 :: (q5 :: (q4 :: (q3 :: [])))))))))) := NDf_c G12 hq13 X13 k483.1 q013
  refine ⟨k442, fun w13 hw13 => ?_⟩
  have k486 : OB w13 d 7 := by rw [hw13]; exact k442
  have k487 : mI w13 225 d = 0 := by rw [hw13]; exact k443
  have k488 : mI w13 226 d = 0 := by rw [hw13]; exact k444
  have k489 : mI w13 234 d = 0 := by rw [hw13]; exact k445
  have k490 : mI w13 241 d = 0 := by rw [hw13]; exact k446
  have k491 : OB w13 q3 8 := by rw [hw13]; exact k447
  have k492 : mN w13 q3 = 8 := by rw [hw13]; exact k448
  have k493 : ∀ i, mA w13 q3 i = 0 := by rw [hw13]; exact k449
  have k494 : mR w13 227 d = some q3 := by rw [hw13, gR_setR, if_neg (fun z => absurd z.1 (by decide))]; exact k450
  have k495 : OB w13 q4 8 := by rw [hw13]; exact k451
  have k496 : mN w13 q4 = 8 := by rw [hw13]; exact k452
  have k497 : ∀ i, mA w13 q4 i = 0 := by rw [hw13]; exact k453
  have k498 : mR w13 228 d = some q4 := by rw [hw13, gR_setR, if_neg (fun z => absurd z.1 (by decide))]; exact k454
  have k499 : OB w13 q5 9 := by rw [hw13]; exact k455
  have k500 : mN w13 q5 = 8 := by rw [hw13]; exact k456
  have k501 : ∀ i, mA w13 q5 i = 0 := by rw [hw13]; exact k457
  have k502 : mR w13 229 d = some q5 := by rw [hw13, gR_setR, if_neg (fun z => absurd z.1 (by decide))]; exact k458
  have k503 : OB w13 q6 8 := by rw [hw13]; exact k459
  have k504 : mN w13 q6 = 24 := by rw [hw13]; exact k460
  have k505 : ∀ i, mA w13 q6 i = 0 := by rw [hw13]; exact k461
  have k506 : mR w13 230 d = some q6 := by rw [hw13, gR_setR, if_neg (fun z => absurd z.1 (by decide))]; exact k462
  have k507 : OB w13 q7 8 := by rw [hw13]; exact k463
  have k508 : mN w13 q7 = 4 := by rw [hw13]; exact k464
  have k509 : ∀ i, mA w13 q7 i = 0 := by rw [hw13]; exact k465
  have k510 : mR w13 231 d = some q7 := by rw [hw13, gR_setR, if_neg (fun z => absurd z.1 (by decide))]; exact k466
  have k511 : OB w13 q8 8 := by rw [hw13]; exact k467
  have k512 : mN w13 q8 = 4 := by rw [hw13]; exact k468
  have k513 : ∀ i, mA w13 q8 i = 0 := by rw [hw13]; exact k469
  have k514 : mR w13 232 d = some q8 := by rw [hw13, gR_setR, if_neg (fun z => absurd z.1 (by decide))]; exact k470
  have k515 : OB w13 q9 9 := by rw [hw13]; exact k471
  have k516 : mN w13 q9 = 4 := by rw [hw13]; exact k472
  have k517 : ∀ i, mA w13 q9 i = 0 := by rw [hw13]; exact k473
  have k518 : mR w13 233 d = some q9 := by rw [hw13, gR_setR, if_neg (fun z => absurd z.1 (by decide))]; exact k474
  have k519 : OB w13 q11 8 := by rw [hw13]; exact k475
  have k520 : mN w13 q11 = 60 := by rw [hw13]; exact k476
  have k521 : ∀ i, mA w13 q11 i = 0 := by rw [hw13]; exact k477
  have k522 : mR w13 235 d = some q11 := by rw [hw13, gR_setR, if_neg (fun z => absurd z.1 (by decide))]; exact k478
  have k523 : OB w13 q12 8 := by rw [hw13]; exact k479
  have k524 : mN w13 q12 = 60 := by rw [hw13]; exact k480
  have k525 : ∀ i, mA w13 q12 i = 0 := by rw [hw13]; exact k481
  have k526 : mR w13 236 d = some q12 := by rw [hw13, gR_setR, if_neg (fun z => absurd z.1 (by decide))]; exact k482
  have k527 : OB w13 q13 8 := by rw [hw13]; exact k483
  have k528 : mN w13 q13 = 60 := by rw [hw13]; exact k484
  have k529 : ∀ i, mA w13 q13 i = 0 := by rw [hw13]; exact k485
  have k530 : mR w13 237 d = some q13 := by rw [hw13, gR_setR, if_pos ⟨rfl, rfl⟩]
  have F13 : Ext u0 w13 := by rw [hw13]; exact (F12.tr X13).setR hd0 _ _
  have G13 : NDf u0 w13 (q13 :: (q12 :: (q11 :: (q9 :: (q8 :: (q7 :: (q6 :: (q5 :: (q4 :: (q3 :: [])))))))))) := by rw [hw13]; exact D13
  clear hv13 hw13 X13 D13
  refine ⟨by omega, by omega, fun q14 hq14 v14 hv14 => ?_⟩
  have q014 := F13.nin hq14
  have X14 : Ext w13 v14 := by rw [hv14]; exact Ext.rf.new hq14
  have k531 : OB v14 d 7 := X14.ob k486
  have k532 : mI v14 225 d = 0 := by rw [(X14 _ k486.1).2.2.2.1]; exact k487
  have k533 : mI v14 226 d = 0 := by rw [(X14 _ k486.1).2.2.2.1]; exact k488
  have k534 : mI v14 234 d = 0 := by rw [(X14 _ k486.1).2.2.2.1]; exact k489
  have k535 : mI v14 241 d = 0 := by rw [(X14 _ k486.1).2.2.2.1]; exact k490
  have k536 : OB v14 q3 8 := X14.ob k491
  have k537 : mN v14 q3 = 8 := by rw [(X14 _ k491.1).2.2.1]; exact k492
  have k538 : ∀ i, mA v14 q3 i = 0 := fun i => by rw [(X14 _ k491.1).2.2.2.2.2.1]; exact k493 i
  have k539 : mR v14 227 d = some q3 := by rw [(X14 _ k486.1).2.2.2.2.1]; exact k494
  have k540 : OB v14 q4 8 := X14.ob k495
  have k541 : mN v14 q4 = 8 := by rw [(X14 _ k495.1).2.2.1]; exact k496
  have k542 : ∀ i, mA v14 q4 i = 0 := fun i => by rw [(X14 _ k495.1).2.2.2.2.2.1]; exact k497 i
  have k543 : mR v14 228 d = some q4 := by rw [(X14 _ k486.1).2.2.2.2.1]; exact k498
  have k544 : OB v14 q5 9 := X14.ob k499
  have k545 : mN v14 q5 = 8 := by rw [(X14 _ k499.1).2.2.1]; exact k500
  have k546 : ∀ i, mA v14 q5 i = 0 := fun i => by rw [(X14 _ k499.1).2.2.2.2.2.1]; exact k501 i
  have k547 : mR v14 229 d = some q5 := by rw [(X14 _ k486.1).2.2.2.2.1]; exact k502
  have k548 : OB v14 q6 8 := X14.ob k503
  have k549 : mN v14 q6 = 24 := by rw [(X14 _ k503.1).2.2.1]; exact k504
  have k550 : ∀ i, mA v14 q6 i = 0 := fun i => by rw [(X14 _ k503.1).2.2.2.2.2.1]; exact k505 i
  have k551 : mR v14 230 d = some q6 := by rw [(X14 _ k486.1).2.2.2.2.1]; exact k506
  have k552 : OB v14 q7 8 := X14.ob k507
  have k553 : mN v14 q7 = 4 := by rw [(X14 _ k507.1).2.2.1]; exact k508
  have k554 : ∀ i, mA v14 q7 i = 0 := fun i => by rw [(X14 _ k507.1).2.2.2.2.2.1]; exact k509 i
  have k555 : mR v14 231 d = some q7 := by rw [(X14 _ k486.1).2.2.2.2.1]; exact k510
  have k556 : OB v14 q8 8 := X14.ob k511
  have k557 : mN v14 q8 = 4 := by rw [(X14 _ k511.1).2.2.1]; exact k512
  have k558 : ∀ i, mA v14 q8 i = 0 := fun i => by rw [(X14 _ k511.1).2.2.2.2.2.1]; exact k513 i
  have k559 : mR v14 232 d = some q8 := by rw [(X14 _ k486.1).2.2.2.2.1]; exact k514
  have k560 : OB v14 q9 9 := X14.ob k515
  have k561 : mN v14 q9 = 4 := by rw [(X14 _ k515.1).2.2.1]; exact k516
  have k562 : ∀ i, mA v14 q9 i = 0 := fun i => by rw [(X14 _ k515.1).2.2.2.2.2.1]; exact k517 i
  have k563 : mR v14 233 d = some q9 := by rw [(X14 _ k486.1).2.2.2.2.1]; exact k518
  have k564 : OB v14 q11 8 := X14.ob k519
  have k565 : mN v14 q11 = 60 := by rw [(X14 _ k519.1).2.2.1]; exact k520
  have k566 : ∀ i, mA v14 q11 i = 0 := fun i => by rw [(X14 _ k519.1).2.2.2.2.2.1]; exact k521 i
  have k567 : mR v14 235 d = some q11 := by rw [(X14 _ k486.1).2.2.2.2.1]; exact k522
  have k568 : OB v14 q12 8 := X14.ob k523
  have k569 : mN v14 q12 = 60 := by rw [(X14 _ k523.1).2.2.1]; exact k524
  have k570 : ∀ i, mA v14 q12 i = 0 := fun i => by rw [(X14 _ k523.1).2.2.2.2.2.1]; exact k525 i
  have k571 : mR v14 236 d = some q12 := by rw [(X14 _ k486.1).2.2.2.2.1]; exact k526
  have k572 : OB v14 q13 8 := X14.ob k527
  have k573 : mN v14 q13 = 60 := by rw [(X14 _ k527.1).2.2.1]; exact k528
  have k574 : ∀ i, mA v14 q13 i = 0 := fun i => by rw [(X14 _ k527.1).2.2.2.2.2.1]; exact k529 i
  have k575 : mR v14 237 d = some q13 := by rw [(X14 _ k486.1).2.2.2.2.1]; exact k530
  have k576 : OB v14 q14 8 := by rw [hv14]; exact (gO_self : OB (mNew w13 q14 8 60) q14 8)
  have k577 : mN v14 q14 = 60 := by rw [hv14, gN_mNew, if_pos rfl]
  have k578 : ∀ i, mA v14 q14 i = 0 := fun i => by rw [hv14, gA_mNew, if_pos rfl]
  have D14 : NDf u0 v14 (q14 :: (q13 :: (q12 :: (q11 :: (q9 :: (q8 :: (q7 :: (q6 :: (q5 :: (q4 :: (q3 :: []))))))))))) := NDf_c G13 hq14 X14 k576.1 q014
  refine ⟨k531, fun w14 hw14 => ?_⟩
  have k579 : OB w14 d 7 := by rw [hw14]; exact k531
  have k580 : mI w14 225 d = 0 := by rw [hw14]; exact k532
  have k581 : mI w14 226 d = 0 := by rw [hw14]; exact k533
  have k582 : mI w14 234 d = 0 := by rw [hw14]; exact k534
  have k583 : mI w14 241 d = 0 := by rw [hw14]; exact k535
  have k584 : OB w14 q3 8 := by rw [hw14]; exact k536
  have k585 : mN w14 q3 = 8 := by rw [hw14]; exact k537
  have k586 : ∀ i, mA w14 q3 i = 0 := by rw [hw14]; exact k538
  have k587 : mR w14 227 d = some q3 := by rw [hw14, gR_setR, if_neg (fun z => absurd z.1 (by decide))]; exact k539
  have k588 : OB w14 q4 8 := by rw [hw14]; exact k540
  have k589 : mN w14 q4 = 8 := by rw [hw14]; exact k541
  have k590 : ∀ i, mA w14 q4 i = 0 := by rw [hw14]; exact k542
  have k591 : mR w14 228 d = some q4 := by rw [hw14, gR_setR, if_neg (fun z => absurd z.1 (by decide))]; exact k543
  have k592 : OB w14 q5 9 := by rw [hw14]; exact k544
  have k593 : mN w14 q5 = 8 := by rw [hw14]; exact k545
  have k594 : ∀ i, mA w14 q5 i = 0 := by rw [hw14]; exact k546
  have k595 : mR w14 229 d = some q5 := by rw [hw14, gR_setR, if_neg (fun z => absurd z.1 (by decide))]; exact k547
  have k596 : OB w14 q6 8 := by rw [hw14]; exact k548
  have k597 : mN w14 q6 = 24 := by rw [hw14]; exact k549
  have k598 : ∀ i, mA w14 q6 i = 0 := by rw [hw14]; exact k550
  have k599 : mR w14 230 d = some q6 := by rw [hw14, gR_setR, if_neg (fun z => absurd z.1 (by decide))]; exact k551
  have k600 : OB w14 q7 8 := by rw [hw14]; exact k552
  have k601 : mN w14 q7 = 4 := by rw [hw14]; exact k553
  have k602 : ∀ i, mA w14 q7 i = 0 := by rw [hw14]; exact k554
  have k603 : mR w14 231 d = some q7 := by rw [hw14, gR_setR, if_neg (fun z => absurd z.1 (by decide))]; exact k555
  have k604 : OB w14 q8 8 := by rw [hw14]; exact k556
  have k605 : mN w14 q8 = 4 := by rw [hw14]; exact k557
  have k606 : ∀ i, mA w14 q8 i = 0 := by rw [hw14]; exact k558
  have k607 : mR w14 232 d = some q8 := by rw [hw14, gR_setR, if_neg (fun z => absurd z.1 (by decide))]; exact k559
  have k608 : OB w14 q9 9 := by rw [hw14]; exact k560
  have k609 : mN w14 q9 = 4 := by rw [hw14]; exact k561
  have k610 : ∀ i, mA w14 q9 i = 0 := by rw [hw14]; exact k562
  have k611 : mR w14 233 d = some q9 := by rw [hw14, gR_setR, if_neg (fun z => absurd z.1 (by decide))]; exact k563
  have k612 : OB w14 q11 8 := by rw [hw14]; exact k564
  have k613 : mN w14 q11 = 60 := by rw [hw14]; exact k565
  have k614 : ∀ i, mA w14 q11 i = 0 := by rw [hw14]; exact k566
  have k615 : mR w14 235 d = some q11 := by rw [hw14, gR_setR, if_neg (fun z => absurd z.1 (by decide))]; exact k567
  have k616 : OB w14 q12 8 := by rw [hw14]; exact k568
  have k617 : mN w14 q12 = 60 := by rw [hw14]; exact k569
  have k618 : ∀ i, mA w14 q12 i = 0 := by rw [hw14]; exact k570
  have k619 : mR w14 236 d = some q12 := by rw [hw14, gR_setR, if_neg (fun z => absurd z.1 (by decide))]; exact k571
  have k620 : OB w14 q13 8 := by rw [hw14]; exact k572
  have k621 : mN w14 q13 = 60 := by rw [hw14]; exact k573
  have k622 : ∀ i, mA w14 q13 i = 0 := by rw [hw14]; exact k574
  have k623 : mR w14 237 d = some q13 := by rw [hw14, gR_setR, if_neg (fun z => absurd z.1 (by decide))]; exact k575
  have k624 : OB w14 q14 8 := by rw [hw14]; exact k576
  have k625 : mN w14 q14 = 60 := by rw [hw14]; exact k577
  have k626 : ∀ i, mA w14 q14 i = 0 := by rw [hw14]; exact k578
  have k627 : mR w14 238 d = some q14 := by rw [hw14, gR_setR, if_pos ⟨rfl, rfl⟩]
  have F14 : Ext u0 w14 := by rw [hw14]; exact (F13.tr X14).setR hd0 _ _
  have G14 : NDf u0 w14 (q14 :: (q13 :: (q12 :: (q11 :: (q9 :: (q8 :: (q7 :: (q6 :: (q5 :: (q4 :: (q3 :: []))))))))))) := by rw [hw14]; exact D14
  clear hv14 hw14 X14 D14
  refine ⟨by omega, by omega, fun q15 hq15 v15 hv15 => ?_⟩
  have q015 := F14.nin hq15
  have X15 : Ext w14 v15 := by rw [hv15]; exact Ext.rf.new hq15
  have k628 : OB v15 d 7 := X15.ob k579
  have k629 : mI v15 225 d = 0 := by rw [(X15 _ k579.1).2.2.2.1]; exact k580
  have k630 : mI v15 226 d = 0 := by rw [(X15 _ k579.1).2.2.2.1]; exact k581
  have k631 : mI v15 234 d = 0 := by rw [(X15 _ k579.1).2.2.2.1]; exact k582
  have k632 : mI v15 241 d = 0 := by rw [(X15 _ k579.1).2.2.2.1]; exact k583
  have k633 : OB v15 q3 8 := X15.ob k584
  have k634 : mN v15 q3 = 8 := by rw [(X15 _ k584.1).2.2.1]; exact k585
  have k635 : ∀ i, mA v15 q3 i = 0 := fun i => by rw [(X15 _ k584.1).2.2.2.2.2.1]; exact k586 i
  have k636 : mR v15 227 d = some q3 := by rw [(X15 _ k579.1).2.2.2.2.1]; exact k587
  have k637 : OB v15 q4 8 := X15.ob k588
  have k638 : mN v15 q4 = 8 := by rw [(X15 _ k588.1).2.2.1]; exact k589
  have k639 : ∀ i, mA v15 q4 i = 0 := fun i => by rw [(X15 _ k588.1).2.2.2.2.2.1]; exact k590 i
  have k640 : mR v15 228 d = some q4 := by rw [(X15 _ k579.1).2.2.2.2.1]; exact k591
  have k641 : OB v15 q5 9 := X15.ob k592
  have k642 : mN v15 q5 = 8 := by rw [(X15 _ k592.1).2.2.1]; exact k593
  have k643 : ∀ i, mA v15 q5 i = 0 := fun i => by rw [(X15 _ k592.1).2.2.2.2.2.1]; exact k594 i
  have k644 : mR v15 229 d = some q5 := by rw [(X15 _ k579.1).2.2.2.2.1]; exact k595
  have k645 : OB v15 q6 8 := X15.ob k596
  have k646 : mN v15 q6 = 24 := by rw [(X15 _ k596.1).2.2.1]; exact k597
  have k647 : ∀ i, mA v15 q6 i = 0 := fun i => by rw [(X15 _ k596.1).2.2.2.2.2.1]; exact k598 i
  have k648 : mR v15 230 d = some q6 := by rw [(X15 _ k579.1).2.2.2.2.1]; exact k599
  have k649 : OB v15 q7 8 := X15.ob k600
  have k650 : mN v15 q7 = 4 := by rw [(X15 _ k600.1).2.2.1]; exact k601
  have k651 : ∀ i, mA v15 q7 i = 0 := fun i => by rw [(X15 _ k600.1).2.2.2.2.2.1]; exact k602 i
  have k652 : mR v15 231 d = some q7 := by rw [(X15 _ k579.1).2.2.2.2.1]; exact k603
  have k653 : OB v15 q8 8 := X15.ob k604
  have k654 : mN v15 q8 = 4 := by rw [(X15 _ k604.1).2.2.1]; exact k605
  have k655 : ∀ i, mA v15 q8 i = 0 := fun i => by rw [(X15 _ k604.1).2.2.2.2.2.1]; exact k606 i
  have k656 : mR v15 232 d = some q8 := by rw [(X15 _ k579.1).2.2.2.2.1]; exact k607
  have k657 : OB v15 q9 9 := X15.ob k608
  have k658 : mN v15 q9 = 4 := by rw [(X15 _ k608.1).2.2.1]; exact k609
  have k659 : ∀ i, mA v15 q9 i = 0 := fun i => by rw [(X15 _ k608.1).2.2.2.2.2.1]; exact k610 i
  have k660 : mR v15 233 d = some q9 := by rw [(X15 _ k579.1).2.2.2.2.1]; exact k611
  have k661 : OB v15 q11 8 := X15.ob k612
  have k662 : mN v15 q11 = 60 := by rw [(X15 _ k612.1).2.2.1]; exact k613
  have k663 : ∀ i, mA v15 q11 i = 0 := fun i => by rw [(X15 _ k612.1).2.2.2.2.2.1]; exact k614 i
  have k664 : mR v15 235 d = some q11 := by rw [(X15 _ k579.1).2.2.2.2.1]; exact k615
  have k665 : OB v15 q12 8 := X15.ob k616
  have k666 : mN v15 q12 = 60 := by rw [(X15 _ k616.1).2.2.1]; exact k617
  have k667 : ∀ i, mA v15 q12 i = 0 := fun i => by rw [(X15 _ k616.1).2.2.2.2.2.1]; exact k618 i
  have k668 : mR v15 236 d = some q12 := by rw [(X15 _ k579.1).2.2.2.2.1]; exact k619
  have k669 : OB v15 q13 8 := X15.ob k620
  have k670 : mN v15 q13 = 60 := by rw [(X15 _ k620.1).2.2.1]; exact k621
  have k671 : ∀ i, mA v15 q13 i = 0 := fun i => by rw [(X15 _ k620.1).2.2.2.2.2.1]; exact k622 i
  have k672 : mR v15 237 d = some q13 := by rw [(X15 _ k579.1).2.2.2.2.1]; exact k623
  have k673 : OB v15 q14 8 := X15.ob k624
  have k674 : mN v15 q14 = 60 := by rw [(X15 _ k624.1).2.2.1]; exact k625
  have k675 : ∀ i, mA v15 q14 i = 0 := fun i => by rw [(X15 _ k624.1).2.2.2.2.2.1]; exact k626 i
  have k676 : mR v15 238 d = some q14 := by rw [(X15 _ k579.1).2.2.2.2.1]; exact k627
  have k677 : OB v15 q15 8 := by rw [hv15]; exact (gO_self : OB (mNew w14 q15 8 60) q15 8)
  have k678 : mN v15 q15 = 60 := by rw [hv15, gN_mNew, if_pos rfl]
  have k679 : ∀ i, mA v15 q15 i = 0 := fun i => by rw [hv15, gA_mNew, if_pos rfl]
  have D15 : NDf u0 v15 (q15 :: (q14 :: (q13 :: (q12 :: (q11 :: (q9 :: (q8 :: (q7 :: (q6 :: (q5 :: (q4 :: (q3 :: [])))))))))))) := NDf_c G14 hq15 X15 k677.1 q015
  refine ⟨k628, fun w15 hw15 => ?_⟩
  have k680 : OB w15 d 7 := by rw [hw15]; exact k628
  have k681 : mI w15 225 d = 0 := by rw [hw15]; exact k629
  have k682 : mI w15 226 d = 0 := by rw [hw15]; exact k630
  have k683 : mI w15 234 d = 0 := by rw [hw15]; exact k631
  have k684 : mI w15 241 d = 0 := by rw [hw15]; exact k632
  have k685 : OB w15 q3 8 := by rw [hw15]; exact k633
  have k686 : mN w15 q3 = 8 := by rw [hw15]; exact k634
  have k687 : ∀ i, mA w15 q3 i = 0 := by rw [hw15]; exact k635
  have k688 : mR w15 227 d = some q3 := by rw [hw15, gR_setR, if_neg (fun z => absurd z.1 (by decide))]; exact k636
  have k689 : OB w15 q4 8 := by rw [hw15]; exact k637
  have k690 : mN w15 q4 = 8 := by rw [hw15]; exact k638
  have k691 : ∀ i, mA w15 q4 i = 0 := by rw [hw15]; exact k639
  have k692 : mR w15 228 d = some q4 := by rw [hw15, gR_setR, if_neg (fun z => absurd z.1 (by decide))]; exact k640
  have k693 : OB w15 q5 9 := by rw [hw15]; exact k641
  have k694 : mN w15 q5 = 8 := by rw [hw15]; exact k642
  have k695 : ∀ i, mA w15 q5 i = 0 := by rw [hw15]; exact k643
  have k696 : mR w15 229 d = some q5 := by rw [hw15, gR_setR, if_neg (fun z => absurd z.1 (by decide))]; exact k644
  have k697 : OB w15 q6 8 := by rw [hw15]; exact k645
  have k698 : mN w15 q6 = 24 := by rw [hw15]; exact k646
  have k699 : ∀ i, mA w15 q6 i = 0 := by rw [hw15]; exact k647
  have k700 : mR w15 230 d = some q6 := by rw [hw15, gR_setR, if_neg (fun z => absurd z.1 (by decide))]; exact k648
  have k701 : OB w15 q7 8 := by rw [hw15]; exact k649
  have k702 : mN w15 q7 = 4 := by rw [hw15]; exact k650
  have k703 : ∀ i, mA w15 q7 i = 0 := by rw [hw15]; exact k651
  have k704 : mR w15 231 d = some q7 := by rw [hw15, gR_setR, if_neg (fun z => absurd z.1 (by decide))]; exact k652
  have k705 : OB w15 q8 8 := by rw [hw15]; exact k653
  have k706 : mN w15 q8 = 4 := by rw [hw15]; exact k654
  have k707 : ∀ i, mA w15 q8 i = 0 := by rw [hw15]; exact k655
  have k708 : mR w15 232 d = some q8 := by rw [hw15, gR_setR, if_neg (fun z => absurd z.1 (by decide))]; exact k656
  have k709 : OB w15 q9 9 := by rw [hw15]; exact k657
  have k710 : mN w15 q9 = 4 := by rw [hw15]; exact k658
  have k711 : ∀ i, mA w15 q9 i = 0 := by rw [hw15]; exact k659
  have k712 : mR w15 233 d = some q9 := by rw [hw15, gR_setR, if_neg (fun z => absurd z.1 (by decide))]; exact k660
  have k713 : OB w15 q11 8 := by rw [hw15]; exact k661
  have k714 : mN w15 q11 = 60 := by rw [hw15]; exact k662
  have k715 : ∀ i, mA w15 q11 i = 0 := by rw [hw15]; exact k663
  have k716 : mR w15 235 d = some q11 := by rw [hw15, gR_setR, if_neg (fun z => absurd z.1 (by decide))]; exact k664
  have k717 : OB w15 q12 8 := by rw [hw15]; exact k665
  have k718 : mN w15 q12 = 60 := by rw [hw15]; exact k666
  have k719 : ∀ i, mA w15 q12 i = 0 := by rw [hw15]; exact k667
  have k720 : mR w15 236 d = some q12 := by rw [hw15, gR_setR, if_neg (fun z => absurd z.1 (by decide))]; exact k668
  have k721 : OB w15 q13 8 := by rw [hw15]; exact k669
  have k722 : mN w15 q13 = 60 := by rw [hw15]; exact k670
  have k723 : ∀ i, mA w15 q13 i = 0 := by rw [hw15]; exact k671
  have k724 : mR w15 237 d = some q13 := by rw [hw15, gR_setR, if_neg (fun z => absurd z.1 (by decide))]; exact k672
  have k725 : OB w15 q14 8 := by rw [hw15]; exact k673
  have k726 : mN w15 q14 = 60 := by rw [hw15]; exact k674
  have k727 : ∀ i, mA w15 q14 i = 0 := by rw [hw15]; exact k675
  have k728 : mR w15 238 d = some q14 := by rw [hw15, gR_setR, if_neg (fun z => absurd z.1 (by decide))]; exact k676
  have k729 : OB w15 q15 8 := by rw [hw15]; exact k677
  have k730 : mN w15 q15 = 60 := by rw [hw15]; exact k678
  have k731 : ∀ i, mA w15 q15 i = 0 := by rw [hw15]; exact k679
  have k732 : mR w15 239 d = some q15 := by rw [hw15, gR_setR, if_pos ⟨rfl, rfl⟩]
  have F15 : Ext u0 w15 := by rw [hw15]; exact (F14.tr X15).setR hd0 _ _
  have G15 : NDf u0 w15 (q15 :: (q14 :: (q13 :: (q12 :: (q11 :: (q9 :: (q8 :: (q7 :: (q6 :: (q5 :: (q4 :: (q3 :: [])))))))))))) := by rw [hw15]; exact D15
  clear hv15 hw15 X15 D15
  refine ⟨by omega, by omega, fun q16 hq16 v16 hv16 => ?_⟩
  have q016 := F15.nin hq16
  have X16 : Ext w15 v16 := by rw [hv16]; exact Ext.rf.new hq16
  have k733 : OB v16 d 7 := X16.ob k680
  have k734 : mI v16 225 d = 0 := by rw [(X16 _ k680.1).2.2.2.1]; exact k681
  have k735 : mI v16 226 d = 0 := by rw [(X16 _ k680.1).2.2.2.1]; exact k682
  have k736 : mI v16 234 d = 0 := by rw [(X16 _ k680.1).2.2.2.1]; exact k683
  have k737 : mI v16 241 d = 0 := by rw [(X16 _ k680.1).2.2.2.1]; exact k684
  have k738 : OB v16 q3 8 := X16.ob k685
  have k739 : mN v16 q3 = 8 := by rw [(X16 _ k685.1).2.2.1]; exact k686
  have k740 : ∀ i, mA v16 q3 i = 0 := fun i => by rw [(X16 _ k685.1).2.2.2.2.2.1]; exact k687 i
  have k741 : mR v16 227 d = some q3 := by rw [(X16 _ k680.1).2.2.2.2.1]; exact k688
  have k742 : OB v16 q4 8 := X16.ob k689
  have k743 : mN v16 q4 = 8 := by rw [(X16 _ k689.1).2.2.1]; exact k690
  have k744 : ∀ i, mA v16 q4 i = 0 := fun i => by rw [(X16 _ k689.1).2.2.2.2.2.1]; exact k691 i
  have k745 : mR v16 228 d = some q4 := by rw [(X16 _ k680.1).2.2.2.2.1]; exact k692
  have k746 : OB v16 q5 9 := X16.ob k693
  have k747 : mN v16 q5 = 8 := by rw [(X16 _ k693.1).2.2.1]; exact k694
  have k748 : ∀ i, mA v16 q5 i = 0 := fun i => by rw [(X16 _ k693.1).2.2.2.2.2.1]; exact k695 i
  have k749 : mR v16 229 d = some q5 := by rw [(X16 _ k680.1).2.2.2.2.1]; exact k696
  have k750 : OB v16 q6 8 := X16.ob k697
  have k751 : mN v16 q6 = 24 := by rw [(X16 _ k697.1).2.2.1]; exact k698
  have k752 : ∀ i, mA v16 q6 i = 0 := fun i => by rw [(X16 _ k697.1).2.2.2.2.2.1]; exact k699 i
  have k753 : mR v16 230 d = some q6 := by rw [(X16 _ k680.1).2.2.2.2.1]; exact k700
  have k754 : OB v16 q7 8 := X16.ob k701
  have k755 : mN v16 q7 = 4 := by rw [(X16 _ k701.1).2.2.1]; exact k702
  have k756 : ∀ i, mA v16 q7 i = 0 := fun i => by rw [(X16 _ k701.1).2.2.2.2.2.1]; exact k703 i
  have k757 : mR v16 231 d = some q7 := by rw [(X16 _ k680.1).2.2.2.2.1]; exact k704
  have k758 : OB v16 q8 8 := X16.ob k705
  have k759 : mN v16 q8 = 4 := by rw [(X16 _ k705.1).2.2.1]; exact k706
  have k760 : ∀ i, mA v16 q8 i = 0 := fun i => by rw [(X16 _ k705.1).2.2.2.2.2.1]; exact k707 i
  have k761 : mR v16 232 d = some q8 := by rw [(X16 _ k680.1).2.2.2.2.1]; exact k708
  have k762 : OB v16 q9 9 := X16.ob k709
  have k763 : mN v16 q9 = 4 := by rw [(X16 _ k709.1).2.2.1]; exact k710
  have k764 : ∀ i, mA v16 q9 i = 0 := fun i => by rw [(X16 _ k709.1).2.2.2.2.2.1]; exact k711 i
  have k765 : mR v16 233 d = some q9 := by rw [(X16 _ k680.1).2.2.2.2.1]; exact k712
  have k766 : OB v16 q11 8 := X16.ob k713
  have k767 : mN v16 q11 = 60 := by rw [(X16 _ k713.1).2.2.1]; exact k714
  have k768 : ∀ i, mA v16 q11 i = 0 := fun i => by rw [(X16 _ k713.1).2.2.2.2.2.1]; exact k715 i
  have k769 : mR v16 235 d = some q11 := by rw [(X16 _ k680.1).2.2.2.2.1]; exact k716
  have k770 : OB v16 q12 8 := X16.ob k717
  have k771 : mN v16 q12 = 60 := by rw [(X16 _ k717.1).2.2.1]; exact k718
  have k772 : ∀ i, mA v16 q12 i = 0 := fun i => by rw [(X16 _ k717.1).2.2.2.2.2.1]; exact k719 i
  have k773 : mR v16 236 d = some q12 := by rw [(X16 _ k680.1).2.2.2.2.1]; exact k720
  have k774 : OB v16 q13 8 := X16.ob k721
  have k775 : mN v16 q13 = 60 := by rw [(X16 _ k721.1).2.2.1]; exact k722
  have k776 : ∀ i, mA v16 q13 i = 0 := fun i => by rw [(X16 _ k721.1).2.2.2.2.2.1]; exact k723 i
  have k777 : mR v16 237 d = some q13 := by rw [(X16 _ k680.1).2.2.2.2.1]; exact k724
  have k778 : OB v16 q14 8 := X16.ob k725
  have k779 : mN v16 q14 = 60 := by rw [(X16 _ k725.1).2.2.1]; exact k726
  have k780 : ∀ i, mA v16 q14 i = 0 := fun i => by rw [(X16 _ k725.1).2.2.2.2.2.1]; exact k727 i
  have k781 : mR v16 238 d = some q14 := by rw [(X16 _ k680.1).2.2.2.2.1]; exact k728
  have k782 : OB v16 q15 8 := X16.ob k729
  have k783 : mN v16 q15 = 60 := by rw [(X16 _ k729.1).2.2.1]; exact k730
  have k784 : ∀ i, mA v16 q15 i = 0 := fun i => by rw [(X16 _ k729.1).2.2.2.2.2.1]; exact k731 i
  have k785 : mR v16 239 d = some q15 := by rw [(X16 _ k680.1).2.2.2.2.1]; exact k732
  have k786 : OB v16 q16 9 := by rw [hv16]; exact (gO_self : OB (mNew w15 q16 9 60) q16 9)
  have k787 : mN v16 q16 = 60 := by rw [hv16, gN_mNew, if_pos rfl]
  have k788 : ∀ i, mA v16 q16 i = 0 := fun i => by rw [hv16, gA_mNew, if_pos rfl]
  have D16 : NDf u0 v16 (q16 :: (q15 :: (q14 :: (q13 :: (q12 :: (q11 :: (q9 :: (q8 :: (q7 :: (q6 :: (q5 :: (q4 :: (q3 :: []))))))))))))) := NDf_c G15 hq16 X16 k786.1 q016
  refine ⟨k733, fun w16 hw16 => ?_⟩
  have k789 : OB w16 d 7 := by rw [hw16]; exact k733
  have k790 : mI w16 225 d = 0 := by rw [hw16]; exact k734
  have k791 : mI w16 226 d = 0 := by rw [hw16]; exact k735
  have k792 : mI w16 234 d = 0 := by rw [hw16]; exact k736
  have k793 : mI w16 241 d = 0 := by rw [hw16]; exact k737
  have k794 : OB w16 q3 8 := by rw [hw16]; exact k738
  have k795 : mN w16 q3 = 8 := by rw [hw16]; exact k739
  have k796 : ∀ i, mA w16 q3 i = 0 := by rw [hw16]; exact k740
  have k797 : mR w16 227 d = some q3 := by rw [hw16, gR_setR, if_neg (fun z => absurd z.1 (by decide))]; exact k741
  have k798 : OB w16 q4 8 := by rw [hw16]; exact k742
  have k799 : mN w16 q4 = 8 := by rw [hw16]; exact k743
  have k800 : ∀ i, mA w16 q4 i = 0 := by rw [hw16]; exact k744
  have k801 : mR w16 228 d = some q4 := by rw [hw16, gR_setR, if_neg (fun z => absurd z.1 (by decide))]; exact k745
  have k802 : OB w16 q5 9 := by rw [hw16]; exact k746
  have k803 : mN w16 q5 = 8 := by rw [hw16]; exact k747
  have k804 : ∀ i, mA w16 q5 i = 0 := by rw [hw16]; exact k748
  have k805 : mR w16 229 d = some q5 := by rw [hw16, gR_setR, if_neg (fun z => absurd z.1 (by decide))]; exact k749
  have k806 : OB w16 q6 8 := by rw [hw16]; exact k750
  have k807 : mN w16 q6 = 24 := by rw [hw16]; exact k751
  have k808 : ∀ i, mA w16 q6 i = 0 := by rw [hw16]; exact k752
  have k809 : mR w16 230 d = some q6 := by rw [hw16, gR_setR, if_neg (fun z => absurd z.1 (by decide))]; exact k753
  have k810 : OB w16 q7 8 := by rw [hw16]; exact k754
  have k811 : mN w16 q7 = 4 := by rw [hw16]; exact k755
  have k812 : ∀ i, mA w16 q7 i = 0 := by rw [hw16]; exact k756
  have k813 : mR w16 231 d = some q7 := by rw [hw16, gR_setR, if_neg (fun z => absurd z.1 (by decide))]; exact k757
  have k814 : OB w16 q8 8 := by rw [hw16]; exact k758
  have k815 : mN w16 q8 = 4 := by rw [hw16]; exact k759
  have k816 : ∀ i, mA w16 q8 i = 0 := by rw [hw16]; exact k760
  have k817 : mR w16 232 d = some q8 := by rw [hw16, gR_setR, if_neg (fun z => absurd z.1 (by decide))]; exact k761
  have k818 : OB w16 q9 9 := by rw [hw16]; exact k762
  have k819 : mN w16 q9 = 4 := by rw [hw16]; exact k763
  have k820 : ∀ i, mA w16 q9 i = 0 := by rw [hw16]; exact k764
  have k821 : mR w16 233 d = some q9 := by rw [hw16, gR_setR, if_neg (fun z => absurd z.1 (by decide))]; exact k765
  have k822 : OB w16 q11 8 := by rw [hw16]; exact k766
  have k823 : mN w16 q11 = 60 := by rw [hw16]; exact k767
  have k824 : ∀ i, mA w16 q11 i = 0 := by rw [hw16]; exact k768
  have k825 : mR w16 235 d = some q11 := by rw [hw16, gR_setR, if_neg (fun z => absurd z.1 (by decide))]; exact k769
  have k826 : OB w16 q12 8 := by rw [hw16]; exact k770
  have k827 : mN w16 q12 = 60 := by rw [hw16]; exact k771
  have k828 : ∀ i, mA w16 q12 i = 0 := by rw [hw16]; exact k772
  have k829 : mR w16 236 d = some q12 := by rw [hw16, gR_setR, if_neg (fun z => absurd z.1 (by decide))]; exact k773
  have k830 : OB w16 q13 8 := by rw [hw16]; exact k774
  have k831 : mN w16 q13 = 60 := by rw [hw16]; exact k775
  have k832 : ∀ i, mA w16 q13 i = 0 := by rw [hw16]; exact k776
  have k833 : mR w16 237 d = some q13 := by rw [hw16, gR_setR, if_neg (fun z => absurd z.1 (by decide))]; exact k777
  have k834 : OB w16 q14 8 := by rw [hw16]; exact k778
  have k835 : mN w16 q14 = 60 := by rw [hw16]; exact k779
  have k836 : ∀ i, mA w16 q14 i = 0 := by rw [hw16]; exact k780
  have k837 : mR w16 238 d = some q14 := by rw [hw16, gR_setR, if_neg (fun z => absurd z.1 (by decide))]; exact k781
  have k838 : OB w16 q15 8 := by rw [hw16]; exact k782
  have k839 : mN w16 q15 = 60 := by rw [hw16]; exact k783
  have k840 : ∀ i, mA w16 q15 i = 0 := by rw [hw16]; exact k784
  have k841 : mR w16 239 d = some q15 := by rw [hw16, gR_setR, if_neg (fun z => absurd z.1 (by decide))]; exact k785
  have k842 : OB w16 q16 9 := by rw [hw16]; exact k786
  have k843 : mN w16 q16 = 60 := by rw [hw16]; exact k787
  have k844 : ∀ i, mA w16 q16 i = 0 := by rw [hw16]; exact k788
  have k845 : mR w16 240 d = some q16 := by rw [hw16, gR_setR, if_pos ⟨rfl, rfl⟩]
  have F16 : Ext u0 w16 := by rw [hw16]; exact (F15.tr X16).setR hd0 _ _
  have G16 : NDf u0 w16 (q16 :: (q15 :: (q14 :: (q13 :: (q12 :: (q11 :: (q9 :: (q8 :: (q7 :: (q6 :: (q5 :: (q4 :: (q3 :: []))))))))))))) := by rw [hw16]; exact D16
  clear hv16 hw16 X16 D16
  refine ⟨by omega, by omega, fun q18 hq18 v18 hv18 => ?_⟩
  have q018 := F16.nin hq18
  have X18 : Ext w16 v18 := by rw [hv18]; exact Ext.rf.new hq18
  have k846 : OB v18 d 7 := X18.ob k789
  have k847 : mI v18 225 d = 0 := by rw [(X18 _ k789.1).2.2.2.1]; exact k790
  have k848 : mI v18 226 d = 0 := by rw [(X18 _ k789.1).2.2.2.1]; exact k791
  have k849 : mI v18 234 d = 0 := by rw [(X18 _ k789.1).2.2.2.1]; exact k792
  have k850 : mI v18 241 d = 0 := by rw [(X18 _ k789.1).2.2.2.1]; exact k793
  have k851 : OB v18 q3 8 := X18.ob k794
  have k852 : mN v18 q3 = 8 := by rw [(X18 _ k794.1).2.2.1]; exact k795
  have k853 : ∀ i, mA v18 q3 i = 0 := fun i => by rw [(X18 _ k794.1).2.2.2.2.2.1]; exact k796 i
  have k854 : mR v18 227 d = some q3 := by rw [(X18 _ k789.1).2.2.2.2.1]; exact k797
  have k855 : OB v18 q4 8 := X18.ob k798
  have k856 : mN v18 q4 = 8 := by rw [(X18 _ k798.1).2.2.1]; exact k799
  have k857 : ∀ i, mA v18 q4 i = 0 := fun i => by rw [(X18 _ k798.1).2.2.2.2.2.1]; exact k800 i
  have k858 : mR v18 228 d = some q4 := by rw [(X18 _ k789.1).2.2.2.2.1]; exact k801
  have k859 : OB v18 q5 9 := X18.ob k802
  have k860 : mN v18 q5 = 8 := by rw [(X18 _ k802.1).2.2.1]; exact k803
  have k861 : ∀ i, mA v18 q5 i = 0 := fun i => by rw [(X18 _ k802.1).2.2.2.2.2.1]; exact k804 i
  have k862 : mR v18 229 d = some q5 := by rw [(X18 _ k789.1).2.2.2.2.1]; exact k805
  have k863 : OB v18 q6 8 := X18.ob k806
  have k864 : mN v18 q6 = 24 := by rw [(X18 _ k806.1).2.2.1]; exact k807
  have k865 : ∀ i, mA v18 q6 i = 0 := fun i => by rw [(X18 _ k806.1).2.2.2.2.2.1]; exact k808 i
  have k866 : mR v18 230 d = some q6 := by rw [(X18 _ k789.1).2.2.2.2.1]; exact k809
  have k867 : OB v18 q7 8 := X18.ob k810
  have k868 : mN v18 q7 = 4 := by rw [(X18 _ k810.1).2.2.1]; exact k811
  have k869 : ∀ i, mA v18 q7 i = 0 := fun i => by rw [(X18 _ k810.1).2.2.2.2.2.1]; exact k812 i
  have k870 : mR v18 231 d = some q7 := by rw [(X18 _ k789.1).2.2.2.2.1]; exact k813
  have k871 : OB v18 q8 8 := X18.ob k814
  have k872 : mN v18 q8 = 4 := by rw [(X18 _ k814.1).2.2.1]; exact k815
  have k873 : ∀ i, mA v18 q8 i = 0 := fun i => by rw [(X18 _ k814.1).2.2.2.2.2.1]; exact k816 i
  have k874 : mR v18 232 d = some q8 := by rw [(X18 _ k789.1).2.2.2.2.1]; exact k817
  have k875 : OB v18 q9 9 := X18.ob k818
  have k876 : mN v18 q9 = 4 := by rw [(X18 _ k818.1).2.2.1]; exact k819
  have k877 : ∀ i, mA v18 q9 i = 0 := fun i => by rw [(X18 _ k818.1).2.2.2.2.2.1]; exact k820 i
  have k878 : mR v18 233 d = some q9 := by rw [(X18 _ k789.1).2.2.2.2.1]; exact k821
  have k879 : OB v18 q11 8 := X18.ob k822
  have k880 : mN v18 q11 = 60 := by rw [(X18 _ k822.1).2.2.1]; exact k823
  have k881 : ∀ i, mA v18 q11 i = 0 := fun i => by rw [(X18 _ k822.1).2.2.2.2.2.1]; exact k824 i
  have k882 : mR v18 235 d = some q11 := by rw [(X18 _ k789.1).2.2.2.2.1]; exact k825
  have k883 : OB v18 q12 8 := X18.ob k826
  have k884 : mN v18 q12 = 60 := by rw [(X18 _ k826.1).2.2.1]; exact k827
  have k885 : ∀ i, mA v18 q12 i = 0 := fun i => by rw [(X18 _ k826.1).2.2.2.2.2.1]; exact k828 i
  have k886 : mR v18 236 d = some q12 := by rw [(X18 _ k789.1).2.2.2.2.1]; exact k829
  have k887 : OB v18 q13 8 := X18.ob k830
  have k888 : mN v18 q13 = 60 := by rw [(X18 _ k830.1).2.2.1]; exact k831
  have k889 : ∀ i, mA v18 q13 i = 0 := fun i => by rw [(X18 _ k830.1).2.2.2.2.2.1]; exact k832 i
  have k890 : mR v18 237 d = some q13 := by rw [(X18 _ k789.1).2.2.2.2.1]; exact k833
  have k891 : OB v18 q14 8 := X18.ob k834
  have k892 : mN v18 q14 = 60 := by rw [(X18 _ k834.1).2.2.1]; exact k835
  have k893 : ∀ i, mA v18 q14 i = 0 := fun i => by rw [(X18 _ k834.1).2.2.2.2.2.1]; exact k836 i
  have k894 : mR v18 238 d = some q14 := by rw [(X18 _ k789.1).2.2.2.2.1]; exact k837
  have k895 : OB v18 q15 8 := X18.ob k838
  have k896 : mN v18 q15 = 60 := by rw [(X18 _ k838.1).2.2.1]; exact k839
  have k897 : ∀ i, mA v18 q15 i = 0 := fun i => by rw [(X18 _ k838.1).2.2.2.2.2.1]; exact k840 i
  have k898 : mR v18 239 d = some q15 := by rw [(X18 _ k789.1).2.2.2.2.1]; exact k841
  have k899 : OB v18 q16 9 := X18.ob k842
  have k900 : mN v18 q16 = 60 := by rw [(X18 _ k842.1).2.2.1]; exact k843
  have k901 : ∀ i, mA v18 q16 i = 0 := fun i => by rw [(X18 _ k842.1).2.2.2.2.2.1]; exact k844 i
  have k902 : mR v18 240 d = some q16 := by rw [(X18 _ k789.1).2.2.2.2.1]; exact k845
  have k903 : OB v18 q18 8 := by rw [hv18]; exact (gO_self : OB (mNew w16 q18 8 300) q18 8)
  have k904 : mN v18 q18 = 300 := by rw [hv18, gN_mNew, if_pos rfl]
  have k905 : ∀ i, mA v18 q18 i = 0 := fun i => by rw [hv18, gA_mNew, if_pos rfl]
  have D18 : NDf u0 v18 (q18 :: (q16 :: (q15 :: (q14 :: (q13 :: (q12 :: (q11 :: (q9 :: (q8 :: (q7 :: (q6 :: (q5 :: (q4 :: (q3 :: [])))))))))))))) := NDf_c G16 hq18 X18 k903.1 q018
  refine ⟨k846, fun w18 hw18 => ?_⟩
  have k906 : OB w18 d 7 := by rw [hw18]; exact k846
  have k907 : mI w18 225 d = 0 := by rw [hw18]; exact k847
  have k908 : mI w18 226 d = 0 := by rw [hw18]; exact k848
  have k909 : mI w18 234 d = 0 := by rw [hw18]; exact k849
  have k910 : mI w18 241 d = 0 := by rw [hw18]; exact k850
  have k911 : OB w18 q3 8 := by rw [hw18]; exact k851
  have k912 : mN w18 q3 = 8 := by rw [hw18]; exact k852
  have k913 : ∀ i, mA w18 q3 i = 0 := by rw [hw18]; exact k853
  have k914 : mR w18 227 d = some q3 := by rw [hw18, gR_setR, if_neg (fun z => absurd z.1 (by decide))]; exact k854
  have k915 : OB w18 q4 8 := by rw [hw18]; exact k855
  have k916 : mN w18 q4 = 8 := by rw [hw18]; exact k856
  have k917 : ∀ i, mA w18 q4 i = 0 := by rw [hw18]; exact k857
  have k918 : mR w18 228 d = some q4 := by rw [hw18, gR_setR, if_neg (fun z => absurd z.1 (by decide))]; exact k858
  have k919 : OB w18 q5 9 := by rw [hw18]; exact k859
  have k920 : mN w18 q5 = 8 := by rw [hw18]; exact k860
  have k921 : ∀ i, mA w18 q5 i = 0 := by rw [hw18]; exact k861
  have k922 : mR w18 229 d = some q5 := by rw [hw18, gR_setR, if_neg (fun z => absurd z.1 (by decide))]; exact k862
  have k923 : OB w18 q6 8 := by rw [hw18]; exact k863
  have k924 : mN w18 q6 = 24 := by rw [hw18]; exact k864
  have k925 : ∀ i, mA w18 q6 i = 0 := by rw [hw18]; exact k865
  have k926 : mR w18 230 d = some q6 := by rw [hw18, gR_setR, if_neg (fun z => absurd z.1 (by decide))]; exact k866
  have k927 : OB w18 q7 8 := by rw [hw18]; exact k867
  have k928 : mN w18 q7 = 4 := by rw [hw18]; exact k868
  have k929 : ∀ i, mA w18 q7 i = 0 := by rw [hw18]; exact k869
  have k930 : mR w18 231 d = some q7 := by rw [hw18, gR_setR, if_neg (fun z => absurd z.1 (by decide))]; exact k870
  have k931 : OB w18 q8 8 := by rw [hw18]; exact k871
  have k932 : mN w18 q8 = 4 := by rw [hw18]; exact k872
  have k933 : ∀ i, mA w18 q8 i = 0 := by rw [hw18]; exact k873
  have k934 : mR w18 232 d = some q8 := by rw [hw18, gR_setR, if_neg (fun z => absurd z.1 (by decide))]; exact k874
  have k935 : OB w18 q9 9 := by rw [hw18]; exact k875
  have k936 : mN w18 q9 = 4 := by rw [hw18]; exact k876
  have k937 : ∀ i, mA w18 q9 i = 0 := by rw [hw18]; exact k877
  have k938 : mR w18 233 d = some q9 := by rw [hw18, gR_setR, if_neg (fun z => absurd z.1 (by decide))]; exact k878
  have k939 : OB w18 q11 8 := by rw [hw18]; exact k879
  have k940 : mN w18 q11 = 60 := by rw [hw18]; exact k880
  have k941 : ∀ i, mA w18 q11 i = 0 := by rw [hw18]; exact k881
  have k942 : mR w18 235 d = some q11 := by rw [hw18, gR_setR, if_neg (fun z => absurd z.1 (by decide))]; exact k882
  have k943 : OB w18 q12 8 := by rw [hw18]; exact k883
  have k944 : mN w18 q12 = 60 := by rw [hw18]; exact k884
  have k945 : ∀ i, mA w18 q12 i = 0 := by rw [hw18]; exact k885
  have k946 : mR w18 236 d = some q12 := by rw [hw18, gR_setR, if_neg (fun z => absurd z.1 (by decide))]; exact k886
  have k947 : OB w18 q13 8 := by rw [hw18]; exact k887
  have k948 : mN w18 q13 = 60 := by rw [hw18]; exact k888
  have k949 : ∀ i, mA w18 q13 i = 0 := by rw [hw18]; exact k889
  have k950 : mR w18 237 d = some q13 := by rw [hw18, gR_setR, if_neg (fun z => absurd z.1 (by decide))]; exact k890
  have k951 : OB w18 q14 8 := by rw [hw18]; exact k891
  have k952 : mN w18 q14 = 60 := by rw [hw18]; exact k892
  have k953 : ∀ i, mA w18 q14 i = 0 := by rw [hw18]; exact k893
  have k954 : mR w18 238 d = some q14 := by rw [hw18, gR_setR, if_neg (fun z => absurd z.1 (by decide))]; exact k894
  have k955 : OB w18 q15 8 := by rw [hw18]; exact k895
  have k956 : mN w18 q15 = 60 := by rw [hw18]; exact k896
  have k957 : ∀ i, mA w18 q15 i = 0 := by rw [hw18]; exact k897
  have k958 : mR w18 239 d = some q15 := by rw [hw18, gR_setR, if_neg (fun z => absurd z.1 (by decide))]; exact k898
  have k959 : OB w18 q16 9 := by rw [hw18]; exact k899
  have k960 : mN w18 q16 = 60 := by rw [hw18]; exact k900
  have k961 : ∀ i, mA w18 q16 i = 0 := by rw [hw18]; exact k901
  have k962 : mR w18 240 d = some q16 := by rw [hw18, gR_setR, if_neg (fun z => absurd z.1 (by decide))]; exact k902
  have k963 : OB w18 q18 8 := by rw [hw18]; exact k903
  have k964 : mN w18 q18 = 300 := by rw [hw18]; exact k904
  have k965 : ∀ i, mA w18 q18 i = 0 := by rw [hw18]; exact k905
  have k966 : mR w18 242 d = some q18 := by rw [hw18, gR_setR, if_pos ⟨rfl, rfl⟩]
  have F18 : Ext u0 w18 := by rw [hw18]; exact (F16.tr X18).setR hd0 _ _
  have G18 : NDf u0 w18 (q18 :: (q16 :: (q15 :: (q14 :: (q13 :: (q12 :: (q11 :: (q9 :: (q8 :: (q7 :: (q6 :: (q5 :: (q4 :: (q3 :: [])))))))))))))) := by rw [hw18]; exact D18
  clear hv18 hw18 X18 D18
  refine ⟨by omega, by omega, fun q19 hq19 v19 hv19 => ?_⟩
  have q019 := F18.nin hq19
  have X19 : Ext w18 v19 := by rw [hv19]; exact Ext.rf.new hq19
  have k967 : OB v19 d 7 := X19.ob k906
  have k968 : mI v19 225 d = 0 := by rw [(X19 _ k906.1).2.2.2.1]; exact k907
  have k969 : mI v19 226 d = 0 := by rw [(X19 _ k906.1).2.2.2.1]; exact k908
  have k970 : mI v19 234 d = 0 := by rw [(X19 _ k906.1).2.2.2.1]; exact k909
  have k971 : mI v19 241 d = 0 := by rw [(X19 _ k906.1).2.2.2.1]; exact k910
  have k972 : OB v19 q3 8 := X19.ob k911
  have k973 : mN v19 q3 = 8 := by rw [(X19 _ k911.1).2.2.1]; exact k912
  have k974 : ∀ i, mA v19 q3 i = 0 := fun i => by rw [(X19 _ k911.1).2.2.2.2.2.1]; exact k913 i
  have k975 : mR v19 227 d = some q3 := by rw [(X19 _ k906.1).2.2.2.2.1]; exact k914
  have k976 : OB v19 q4 8 := X19.ob k915
  have k977 : mN v19 q4 = 8 := by rw [(X19 _ k915.1).2.2.1]; exact k916
  have k978 : ∀ i, mA v19 q4 i = 0 := fun i => by rw [(X19 _ k915.1).2.2.2.2.2.1]; exact k917 i
  have k979 : mR v19 228 d = some q4 := by rw [(X19 _ k906.1).2.2.2.2.1]; exact k918
  have k980 : OB v19 q5 9 := X19.ob k919
  have k981 : mN v19 q5 = 8 := by rw [(X19 _ k919.1).2.2.1]; exact k920
  have k982 : ∀ i, mA v19 q5 i = 0 := fun i => by rw [(X19 _ k919.1).2.2.2.2.2.1]; exact k921 i
  have k983 : mR v19 229 d = some q5 := by rw [(X19 _ k906.1).2.2.2.2.1]; exact k922
  have k984 : OB v19 q6 8 := X19.ob k923
  have k985 : mN v19 q6 = 24 := by rw [(X19 _ k923.1).2.2.1]; exact k924
  have k986 : ∀ i, mA v19 q6 i = 0 := fun i => by rw [(X19 _ k923.1).2.2.2.2.2.1]; exact k925 i
  have k987 : mR v19 230 d = some q6 := by rw [(X19 _ k906.1).2.2.2.2.1]; exact k926
  have k988 : OB v19 q7 8 := X19.ob k927
  have k989 : mN v19 q7 = 4 := by rw [(X19 _ k927.1).2.2.1]; exact k928
  have k990 : ∀ i, mA v19 q7 i = 0 := fun i => by rw [(X19 _ k927.1).2.2.2.2.2.1]; exact k929 i
  have k991 : mR v19 231 d = some q7 := by rw [(X19 _ k906.1).2.2.2.2.1]; exact k930
  have k992 : OB v19 q8 8 := X19.ob k931
  have k993 : mN v19 q8 = 4 := by rw [(X19 _ k931.1).2.2.1]; exact k932
  have k994 : ∀ i, mA v19 q8 i = 0 := fun i => by rw [(X19 _ k931.1).2.2.2.2.2.1]; exact k933 i
  have k995 : mR v19 232 d = some q8 := by rw [(X19 _ k906.1).2.2.2.2.1]; exact k934
  have k996 : OB v19 q9 9 := X19.ob k935
  have k997 : mN v19 q9 = 4 := by rw [(X19 _ k935.1).2.2.1]; exact k936
  have k998 : ∀ i, mA v19 q9 i = 0 := fun i => by rw [(X19 _ k935.1).2.2.2.2.2.1]; exact k937 i
  have k999 : mR v19 233 d = some q9 := by rw [(X19 _ k906.1).2.2.2.2.1]; exact k938
  have k1000 : OB v19 q11 8 := X19.ob k939
  have k1001 : mN v19 q11 = 60 := by rw [(X19 _ k939.1).2.2.1]; exact k940
  have k1002 : ∀ i, mA v19 q11 i = 0 := fun i => by rw [(X19 _ k939.1).2.2.2.2.2.1]; exact k941 i
  have k1003 : mR v19 235 d = some q11 := by rw [(X19 _ k906.1).2.2.2.2.1]; exact k942
  have k1004 : OB v19 q12 8 := X19.ob k943
  have k1005 : mN v19 q12 = 60 := by rw [(X19 _ k943.1).2.2.1]; exact k944
  have k1006 : ∀ i, mA v19 q12 i = 0 := fun i => by rw [(X19 _ k943.1).2.2.2.2.2.1]; exact k945 i
  have k1007 : mR v19 236 d = some q12 := by rw [(X19 _ k906.1).2.2.2.2.1]; exact k946
  have k1008 : OB v19 q13 8 := X19.ob k947
  have k1009 : mN v19 q13 = 60 := by rw [(X19 _ k947.1).2.2.1]; exact k948
  have k1010 : ∀ i, mA v19 q13 i = 0 := fun i => by rw [(X19 _ k947.1).2.2.2.2.2.1]; exact k949 i
  have k1011 : mR v19 237 d = some q13 := by rw [(X19 _ k906.1).2.2.2.2.1]; exact k950
  have k1012 : OB v19 q14 8 := X19.ob k951
  have k1013 : mN v19 q14 = 60 := by rw [(X19 _ k951.1).2.2.1]; exact k952
  have k1014 : ∀ i, mA v19 q14 i = 0 := fun i => by rw [(X19 _ k951.1).2.2.2.2.2.1]; exact k953 i
  have k1015 : mR v19 238 d = some q14 := by rw [(X19 _ k906.1).2.2.2.2.1]; exact k954
  have k1016 : OB v19 q15 8 := X19.ob k955
  have k1017 : mN v19 q15 = 60 := by rw [(X19 _ k955.1).2.2.1]; exact k956
  have k1018 : ∀ i, mA v19 q15 i = 0 := fun i => by rw [(X19 _ k955.1).2.2.2.2.2.1]; exact k957 i
  have k1019 : mR v19 239 d = some q15 := by rw [(X19 _ k906.1).2.2.2.2.1]; exact k958
  have k1020 : OB v19 q16 9 := X19.ob k959
  have k1021 : mN v19 q16 = 60 := by rw [(X19 _ k959.1).2.2.1]; exact k960
  have k1022 : ∀ i, mA v19 q16 i = 0 := fun i => by rw [(X19 _ k959.1).2.2.2.2.2.1]; exact k961 i
  have k1023 : mR v19 240 d = some q16 := by rw [(X19 _ k906.1).2.2.2.2.1]; exact k962
  have k1024 : OB v19 q18 8 := X19.ob k963
  have k1025 : mN v19 q18 = 300 := by rw [(X19 _ k963.1).2.2.1]; exact k964
  have k1026 : ∀ i, mA v19 q18 i = 0 := fun i => by rw [(X19 _ k963.1).2.2.2.2.2.1]; exact k965 i
  have k1027 : mR v19 242 d = some q18 := by rw [(X19 _ k906.1).2.2.2.2.1]; exact k966
  have k1028 : OB v19 q19 8 := by rw [hv19]; exact (gO_self : OB (mNew w18 q19 8 300) q19 8)
  have k1029 : mN v19 q19 = 300 := by rw [hv19, gN_mNew, if_pos rfl]
  have k1030 : ∀ i, mA v19 q19 i = 0 := fun i => by rw [hv19, gA_mNew, if_pos rfl]
  have D19 : NDf u0 v19 (q19 :: (q18 :: (q16 :: (q15 :: (q14 :: (q13 :: (q12 :: (q11 :: (q9 :: (q8 :: (q7 :: (q6 :: (q5 :: (q4 :: (q3 :: []))))))))))))))) := NDf_c G18 hq19 X19 k1028.1 q019
  refine ⟨k967, fun w19 hw19 => ?_⟩
  have k1031 : OB w19 d 7 := by rw [hw19]; exact k967
  have k1032 : mI w19 225 d = 0 := by rw [hw19]; exact k968
  have k1033 : mI w19 226 d = 0 := by rw [hw19]; exact k969
  have k1034 : mI w19 234 d = 0 := by rw [hw19]; exact k970
  have k1035 : mI w19 241 d = 0 := by rw [hw19]; exact k971
  have k1036 : OB w19 q3 8 := by rw [hw19]; exact k972
  have k1037 : mN w19 q3 = 8 := by rw [hw19]; exact k973
  have k1038 : ∀ i, mA w19 q3 i = 0 := by rw [hw19]; exact k974
  have k1039 : mR w19 227 d = some q3 := by rw [hw19, gR_setR, if_neg (fun z => absurd z.1 (by decide))]; exact k975
  have k1040 : OB w19 q4 8 := by rw [hw19]; exact k976
  have k1041 : mN w19 q4 = 8 := by rw [hw19]; exact k977
  have k1042 : ∀ i, mA w19 q4 i = 0 := by rw [hw19]; exact k978
  have k1043 : mR w19 228 d = some q4 := by rw [hw19, gR_setR, if_neg (fun z => absurd z.1 (by decide))]; exact k979
  have k1044 : OB w19 q5 9 := by rw [hw19]; exact k980
  have k1045 : mN w19 q5 = 8 := by rw [hw19]; exact k981
  have k1046 : ∀ i, mA w19 q5 i = 0 := by rw [hw19]; exact k982
  have k1047 : mR w19 229 d = some q5 := by rw [hw19, gR_setR, if_neg (fun z => absurd z.1 (by decide))]; exact k983
  have k1048 : OB w19 q6 8 := by rw [hw19]; exact k984
  have k1049 : mN w19 q6 = 24 := by rw [hw19]; exact k985
  have k1050 : ∀ i, mA w19 q6 i = 0 := by rw [hw19]; exact k986
  have k1051 : mR w19 230 d = some q6 := by rw [hw19, gR_setR, if_neg (fun z => absurd z.1 (by decide))]; exact k987
  have k1052 : OB w19 q7 8 := by rw [hw19]; exact k988
  have k1053 : mN w19 q7 = 4 := by rw [hw19]; exact k989
  have k1054 : ∀ i, mA w19 q7 i = 0 := by rw [hw19]; exact k990
  have k1055 : mR w19 231 d = some q7 := by rw [hw19, gR_setR, if_neg (fun z => absurd z.1 (by decide))]; exact k991
  have k1056 : OB w19 q8 8 := by rw [hw19]; exact k992
  have k1057 : mN w19 q8 = 4 := by rw [hw19]; exact k993
  have k1058 : ∀ i, mA w19 q8 i = 0 := by rw [hw19]; exact k994
  have k1059 : mR w19 232 d = some q8 := by rw [hw19, gR_setR, if_neg (fun z => absurd z.1 (by decide))]; exact k995
  have k1060 : OB w19 q9 9 := by rw [hw19]; exact k996
  have k1061 : mN w19 q9 = 4 := by rw [hw19]; exact k997
  have k1062 : ∀ i, mA w19 q9 i = 0 := by rw [hw19]; exact k998
  have k1063 : mR w19 233 d = some q9 := by rw [hw19, gR_setR, if_neg (fun z => absurd z.1 (by decide))]; exact k999
  have k1064 : OB w19 q11 8 := by rw [hw19]; exact k1000
  have k1065 : mN w19 q11 = 60 := by rw [hw19]; exact k1001
  have k1066 : ∀ i, mA w19 q11 i = 0 := by rw [hw19]; exact k1002
  have k1067 : mR w19 235 d = some q11 := by rw [hw19, gR_setR, if_neg (fun z => absurd z.1 (by decide))]; exact k1003
  have k1068 : OB w19 q12 8 := by rw [hw19]; exact k1004
  have k1069 : mN w19 q12 = 60 := by rw [hw19]; exact k1005
  have k1070 : ∀ i, mA w19 q12 i = 0 := by rw [hw19]; exact k1006
  have k1071 : mR w19 236 d = some q12 := by rw [hw19, gR_setR, if_neg (fun z => absurd z.1 (by decide))]; exact k1007
  have k1072 : OB w19 q13 8 := by rw [hw19]; exact k1008
  have k1073 : mN w19 q13 = 60 := by rw [hw19]; exact k1009
  have k1074 : ∀ i, mA w19 q13 i = 0 := by rw [hw19]; exact k1010
  have k1075 : mR w19 237 d = some q13 := by rw [hw19, gR_setR, if_neg (fun z => absurd z.1 (by decide))]; exact k1011
  have k1076 : OB w19 q14 8 := by rw [hw19]; exact k1012
  have k1077 : mN w19 q14 = 60 := by rw [hw19]; exact k1013
  have k1078 : ∀ i, mA w19 q14 i = 0 := by rw [hw19]; exact k1014
  have k1079 : mR w19 238 d = some q14 := by rw [hw19, gR_setR, if_neg (fun z => absurd z.1 (by decide))]; exact k1015
  have k1080 : OB w19 q15 8 := by rw [hw19]; exact k1016
  have k1081 : mN w19 q15 = 60 := by rw [hw19]; exact k1017
  have k1082 : ∀ i, mA w19 q15 i = 0 := by rw [hw19]; exact k1018
  have k1083 : mR w19 239 d = some q15 := by rw [hw19, gR_setR, if_neg (fun z => absurd z.1 (by decide))]; exact k1019
  have k1084 : OB w19 q16 9 := by rw [hw19]; exact k1020
  have k1085 : mN w19 q16 = 60 := by rw [hw19]; exact k1021
  have k1086 : ∀ i, mA w19 q16 i = 0 := by rw [hw19]; exact k1022
  have k1087 : mR w19 240 d = some q16 := by rw [hw19, gR_setR, if_neg (fun z => absurd z.1 (by decide))]; exact k1023
  have k1088 : OB w19 q18 8 := by rw [hw19]; exact k1024
  have k1089 : mN w19 q18 = 300 := by rw [hw19]; exact k1025
  have k1090 : ∀ i, mA w19 q18 i = 0 := by rw [hw19]; exact k1026
  have k1091 : mR w19 242 d = some q18 := by rw [hw19, gR_setR, if_neg (fun z => absurd z.1 (by decide))]; exact k1027
  have k1092 : OB w19 q19 8 := by rw [hw19]; exact k1028
  have k1093 : mN w19 q19 = 300 := by rw [hw19]; exact k1029
  have k1094 : ∀ i, mA w19 q19 i = 0 := by rw [hw19]; exact k1030
  have k1095 : mR w19 243 d = some q19 := by rw [hw19, gR_setR, if_pos ⟨rfl, rfl⟩]
  have F19 : Ext u0 w19 := by rw [hw19]; exact (F18.tr X19).setR hd0 _ _
  have G19 : NDf u0 w19 (q19 :: (q18 :: (q16 :: (q15 :: (q14 :: (q13 :: (q12 :: (q11 :: (q9 :: (q8 :: (q7 :: (q6 :: (q5 :: (q4 :: (q3 :: []))))))))))))))) := by rw [hw19]; exact D19
  clear hv19 hw19 X19 D19
  refine ⟨by omega, by omega, fun q20 hq20 v20 hv20 => ?_⟩
  have q020 := F19.nin hq20
  have X20 : Ext w19 v20 := by rw [hv20]; exact Ext.rf.new hq20
  have k1096 : OB v20 d 7 := X20.ob k1031
  have k1097 : mI v20 225 d = 0 := by rw [(X20 _ k1031.1).2.2.2.1]; exact k1032
  have k1098 : mI v20 226 d = 0 := by rw [(X20 _ k1031.1).2.2.2.1]; exact k1033
  have k1099 : mI v20 234 d = 0 := by rw [(X20 _ k1031.1).2.2.2.1]; exact k1034
  have k1100 : mI v20 241 d = 0 := by rw [(X20 _ k1031.1).2.2.2.1]; exact k1035
  have k1101 : OB v20 q3 8 := X20.ob k1036
  have k1102 : mN v20 q3 = 8 := by rw [(X20 _ k1036.1).2.2.1]; exact k1037
  have k1103 : ∀ i, mA v20 q3 i = 0 := fun i => by rw [(X20 _ k1036.1).2.2.2.2.2.1]; exact k1038 i
  have k1104 : mR v20 227 d = some q3 := by rw [(X20 _ k1031.1).2.2.2.2.1]; exact k1039
  have k1105 : OB v20 q4 8 := X20.ob k1040
  have k1106 : mN v20 q4 = 8 := by rw [(X20 _ k1040.1).2.2.1]; exact k1041
  have k1107 : ∀ i, mA v20 q4 i = 0 := fun i => by rw [(X20 _ k1040.1).2.2.2.2.2.1]; exact k1042 i
  have k1108 : mR v20 228 d = some q4 := by rw [(X20 _ k1031.1).2.2.2.2.1]; exact k1043
  have k1109 : OB v20 q5 9 := X20.ob k1044
  have k1110 : mN v20 q5 = 8 := by rw [(X20 _ k1044.1).2.2.1]; exact k1045
  have k1111 : ∀ i, mA v20 q5 i = 0 := fun i => by rw [(X20 _ k1044.1).2.2.2.2.2.1]; exact k1046 i
  have k1112 : mR v20 229 d = some q5 := by rw [(X20 _ k1031.1).2.2.2.2.1]; exact k1047
  have k1113 : OB v20 q6 8 := X20.ob k1048
  have k1114 : mN v20 q6 = 24 := by rw [(X20 _ k1048.1).2.2.1]; exact k1049
  have k1115 : ∀ i, mA v20 q6 i = 0 := fun i => by rw [(X20 _ k1048.1).2.2.2.2.2.1]; exact k1050 i
  have k1116 : mR v20 230 d = some q6 := by rw [(X20 _ k1031.1).2.2.2.2.1]; exact k1051
  have k1117 : OB v20 q7 8 := X20.ob k1052
  have k1118 : mN v20 q7 = 4 := by rw [(X20 _ k1052.1).2.2.1]; exact k1053
  have k1119 : ∀ i, mA v20 q7 i = 0 := fun i => by rw [(X20 _ k1052.1).2.2.2.2.2.1]; exact k1054 i
  have k1120 : mR v20 231 d = some q7 := by rw [(X20 _ k1031.1).2.2.2.2.1]; exact k1055
  have k1121 : OB v20 q8 8 := X20.ob k1056
  have k1122 : mN v20 q8 = 4 := by rw [(X20 _ k1056.1).2.2.1]; exact k1057
  have k1123 : ∀ i, mA v20 q8 i = 0 := fun i => by rw [(X20 _ k1056.1).2.2.2.2.2.1]; exact k1058 i
  have k1124 : mR v20 232 d = some q8 := by rw [(X20 _ k1031.1).2.2.2.2.1]; exact k1059
  have k1125 : OB v20 q9 9 := X20.ob k1060
  have k1126 : mN v20 q9 = 4 := by rw [(X20 _ k1060.1).2.2.1]; exact k1061
  have k1127 : ∀ i, mA v20 q9 i = 0 := fun i => by rw [(X20 _ k1060.1).2.2.2.2.2.1]; exact k1062 i
  have k1128 : mR v20 233 d = some q9 := by rw [(X20 _ k1031.1).2.2.2.2.1]; exact k1063
  have k1129 : OB v20 q11 8 := X20.ob k1064
  have k1130 : mN v20 q11 = 60 := by rw [(X20 _ k1064.1).2.2.1]; exact k1065
  have k1131 : ∀ i, mA v20 q11 i = 0 := fun i => by rw [(X20 _ k1064.1).2.2.2.2.2.1]; exact k1066 i
  have k1132 : mR v20 235 d = some q11 := by rw [(X20 _ k1031.1).2.2.2.2.1]; exact k1067
  have k1133 : OB v20 q12 8 := X20.ob k1068
  have k1134 : mN v20 q12 = 60 := by rw [(X20 _ k1068.1).2.2.1]; exact k1069
  have k1135 : ∀ i, mA v20 q12 i = 0 := fun i => by rw [(X20 _ k1068.1).2.2.2.2.2.1]; exact k1070 i
  have k1136 : mR v20 236 d = some q12 := by rw [(X20 _ k1031.1).2.2.2.2.1]; exact k1071
  have k1137 : OB v20 q13 8 := X20.ob k1072
  have k1138 : mN v20 q13 = 60 := by rw [(X20 _ k1072.1).2.2.1]; exact k1073
  have k1139 : ∀ i, mA v20 q13 i = 0 := fun i => by rw [(X20 _ k1072.1).2.2.2.2.2.1]; exact k1074 i
  have k1140 : mR v20 237 d = some q13 := by rw [(X20 _ k1031.1).2.2.2.2.1]; exact k1075
  have k1141 : OB v20 q14 8 := X20.ob k1076
  have k1142 : mN v20 q14 = 60 := by rw [(X20 _ k1076.1).2.2.1]; exact k1077
  have k1143 : ∀ i, mA v20 q14 i = 0 := fun i => by rw [(X20 _ k1076.1).2.2.2.2.2.1]; exact k1078 i
  have k1144 : mR v20 238 d = some q14 := by rw [(X20 _ k1031.1).2.2.2.2.1]; exact k1079
  have k1145 : OB v20 q15 8 := X20.ob k1080
  have k1146 : mN v20 q15 = 60 := by rw [(X20 _ k1080.1).2.2.1]; exact k1081
  have k1147 : ∀ i, mA v20 q15 i = 0 := fun i => by rw [(X20 _ k1080.1).2.2.2.2.2.1]; exact k1082 i
  have k1148 : mR v20 239 d = some q15 := by rw [(X20 _ k1031.1).2.2.2.2.1]; exact k1083
  have k1149 : OB v20 q16 9 := X20.ob k1084
  have k1150 : mN v20 q16 = 60 := by rw [(X20 _ k1084.1).2.2.1]; exact k1085
  have k1151 : ∀ i, mA v20 q16 i = 0 := fun i => by rw [(X20 _ k1084.1).2.2.2.2.2.1]; exact k1086 i
  have k1152 : mR v20 240 d = some q16 := by rw [(X20 _ k1031.1).2.2.2.2.1]; exact k1087
  have k1153 : OB v20 q18 8 := X20.ob k1088
  have k1154 : mN v20 q18 = 300 := by rw [(X20 _ k1088.1).2.2.1]; exact k1089
  have k1155 : ∀ i, mA v20 q18 i = 0 := fun i => by rw [(X20 _ k1088.1).2.2.2.2.2.1]; exact k1090 i
  have k1156 : mR v20 242 d = some q18 := by rw [(X20 _ k1031.1).2.2.2.2.1]; exact k1091
  have k1157 : OB v20 q19 8 := X20.ob k1092
  have k1158 : mN v20 q19 = 300 := by rw [(X20 _ k1092.1).2.2.1]; exact k1093
  have k1159 : ∀ i, mA v20 q19 i = 0 := fun i => by rw [(X20 _ k1092.1).2.2.2.2.2.1]; exact k1094 i
  have k1160 : mR v20 243 d = some q19 := by rw [(X20 _ k1031.1).2.2.2.2.1]; exact k1095
  have k1161 : OB v20 q20 8 := by rw [hv20]; exact (gO_self : OB (mNew w19 q20 8 300) q20 8)
  have k1162 : mN v20 q20 = 300 := by rw [hv20, gN_mNew, if_pos rfl]
  have k1163 : ∀ i, mA v20 q20 i = 0 := fun i => by rw [hv20, gA_mNew, if_pos rfl]
  have D20 : NDf u0 v20 (q20 :: (q19 :: (q18 :: (q16 :: (q15 :: (q14 :: (q13 :: (q12 :: (q11 :: (q9 :: (q8 :: (q7 :: (q6 :: (q5 :: (q4 :: (q3 :: [])))))))))))))))) := NDf_c G19 hq20 X20 k1161.1 q020
  refine ⟨k1096, fun w20 hw20 => ?_⟩
  have k1164 : OB w20 d 7 := by rw [hw20]; exact k1096
  have k1165 : mI w20 225 d = 0 := by rw [hw20]; exact k1097
  have k1166 : mI w20 226 d = 0 := by rw [hw20]; exact k1098
  have k1167 : mI w20 234 d = 0 := by rw [hw20]; exact k1099
  have k1168 : mI w20 241 d = 0 := by rw [hw20]; exact k1100
  have k1169 : OB w20 q3 8 := by rw [hw20]; exact k1101
  have k1170 : mN w20 q3 = 8 := by rw [hw20]; exact k1102
  have k1171 : ∀ i, mA w20 q3 i = 0 := by rw [hw20]; exact k1103
  have k1172 : mR w20 227 d = some q3 := by rw [hw20, gR_setR, if_neg (fun z => absurd z.1 (by decide))]; exact k1104
  have k1173 : OB w20 q4 8 := by rw [hw20]; exact k1105
  have k1174 : mN w20 q4 = 8 := by rw [hw20]; exact k1106
  have k1175 : ∀ i, mA w20 q4 i = 0 := by rw [hw20]; exact k1107
  have k1176 : mR w20 228 d = some q4 := by rw [hw20, gR_setR, if_neg (fun z => absurd z.1 (by decide))]; exact k1108
  have k1177 : OB w20 q5 9 := by rw [hw20]; exact k1109
  have k1178 : mN w20 q5 = 8 := by rw [hw20]; exact k1110
  have k1179 : ∀ i, mA w20 q5 i = 0 := by rw [hw20]; exact k1111
  have k1180 : mR w20 229 d = some q5 := by rw [hw20, gR_setR, if_neg (fun z => absurd z.1 (by decide))]; exact k1112
  have k1181 : OB w20 q6 8 := by rw [hw20]; exact k1113
  have k1182 : mN w20 q6 = 24 := by rw [hw20]; exact k1114
  have k1183 : ∀ i, mA w20 q6 i = 0 := by rw [hw20]; exact k1115
  have k1184 : mR w20 230 d = some q6 := by rw [hw20, gR_setR, if_neg (fun z => absurd z.1 (by decide))]; exact k1116
  have k1185 : OB w20 q7 8 := by rw [hw20]; exact k1117
  have k1186 : mN w20 q7 = 4 := by rw [hw20]; exact k1118
  have k1187 : ∀ i, mA w20 q7 i = 0 := by rw [hw20]; exact k1119
  have k1188 : mR w20 231 d = some q7 := by rw [hw20, gR_setR, if_neg (fun z => absurd z.1 (by decide))]; exact k1120
  have k1189 : OB w20 q8 8 := by rw [hw20]; exact k1121
  have k1190 : mN w20 q8 = 4 := by rw [hw20]; exact k1122
  have k1191 : ∀ i, mA w20 q8 i = 0 := by rw [hw20]; exact k1123
  have k1192 : mR w20 232 d = some q8 := by rw [hw20, gR_setR, if_neg (fun z => absurd z.1 (by decide))]; exact k1124
  have k1193 : OB w20 q9 9 := by rw [hw20]; exact k1125
  have k1194 : mN w20 q9 = 4 := by rw [hw20]; exact k1126
  have k1195 : ∀ i, mA w20 q9 i = 0 := by rw [hw20]; exact k1127
  have k1196 : mR w20 233 d = some q9 := by rw [hw20, gR_setR, if_neg (fun z => absurd z.1 (by decide))]; exact k1128
  have k1197 : OB w20 q11 8 := by rw [hw20]; exact k1129
  have k1198 : mN w20 q11 = 60 := by rw [hw20]; exact k1130
  have k1199 : ∀ i, mA w20 q11 i = 0 := by rw [hw20]; exact k1131
  have k1200 : mR w20 235 d = some q11 := by rw [hw20, gR_setR, if_neg (fun z => absurd z.1 (by decide))]; exact k1132
  have k1201 : OB w20 q12 8 := by rw [hw20]; exact k1133
  have k1202 : mN w20 q12 = 60 := by rw [hw20]; exact k1134
  have k1203 : ∀ i, mA w20 q12 i = 0 := by rw [hw20]; exact k1135
  have k1204 : mR w20 236 d = some q12 := by rw [hw20, gR_setR, if_neg (fun z => absurd z.1 (by decide))]; exact k1136
  have k1205 : OB w20 q13 8 := by rw [hw20]; exact k1137
  have k1206 : mN w20 q13 = 60 := by rw [hw20]; exact k1138
  have k1207 : ∀ i, mA w20 q13 i = 0 := by rw [hw20]; exact k1139
  have k1208 : mR w20 237 d = some q13 := by rw [hw20, gR_setR, if_neg (fun z => absurd z.1 (by decide))]; exact k1140
  have k1209 : OB w20 q14 8 := by rw [hw20]; exact k1141
  have k1210 : mN w20 q14 = 60 := by rw [hw20]; exact k1142
  have k1211 : ∀ i, mA w20 q14 i = 0 := by rw [hw20]; exact k1143
  have k1212 : mR w20 238 d = some q14 := by rw [hw20, gR_setR, if_neg (fun z => absurd z.1 (by decide))]; exact k1144
  have k1213 : OB w20 q15 8 := by rw [hw20]; exact k1145
  have k1214 : mN w20 q15 = 60 := by rw [hw20]; exact k1146
  have k1215 : ∀ i, mA w20 q15 i = 0 := by rw [hw20]; exact k1147
  have k1216 : mR w20 239 d = some q15 := by rw [hw20, gR_setR, if_neg (fun z => absurd z.1 (by decide))]; exact k1148
  have k1217 : OB w20 q16 9 := by rw [hw20]; exact k1149
  have k1218 : mN w20 q16 = 60 := by rw [hw20]; exact k1150
  have k1219 : ∀ i, mA w20 q16 i = 0 := by rw [hw20]; exact k1151
  have k1220 : mR w20 240 d = some q16 := by rw [hw20, gR_setR, if_neg (fun z => absurd z.1 (by decide))]; exact k1152
  have k1221 : OB w20 q18 8 := by rw [hw20]; exact k1153
  have k1222 : mN w20 q18 = 300 := by rw [hw20]; exact k1154
  have k1223 : ∀ i, mA w20 q18 i = 0 := by rw [hw20]; exact k1155
  have k1224 : mR w20 242 d = some q18 := by rw [hw20, gR_setR, if_neg (fun z => absurd z.1 (by decide))]; exact k1156
  have k1225 : OB w20 q19 8 := by rw [hw20]; exact k1157
  have k1226 : mN w20 q19 = 300 := by rw [hw20]; exact k1158
  have k1227 : ∀ i, mA w20 q19 i = 0 := by rw [hw20]; exact k1159
  have k1228 : mR w20 243 d = some q19 := by rw [hw20, gR_setR, if_neg (fun z => absurd z.1 (by decide))]; exact k1160
  have k1229 : OB w20 q20 8 := by rw [hw20]; exact k1161
  have k1230 : mN w20 q20 = 300 := by rw [hw20]; exact k1162
  have k1231 : ∀ i, mA w20 q20 i = 0 := by rw [hw20]; exact k1163
  have k1232 : mR w20 244 d = some q20 := by rw [hw20, gR_setR, if_pos ⟨rfl, rfl⟩]
  have F20 : Ext u0 w20 := by rw [hw20]; exact (F19.tr X20).setR hd0 _ _
  have G20 : NDf u0 w20 (q20 :: (q19 :: (q18 :: (q16 :: (q15 :: (q14 :: (q13 :: (q12 :: (q11 :: (q9 :: (q8 :: (q7 :: (q6 :: (q5 :: (q4 :: (q3 :: [])))))))))))))))) := by rw [hw20]; exact D20
  clear hv20 hw20 X20 D20
  refine ⟨by omega, by omega, fun q21 hq21 v21 hv21 => ?_⟩
  have q021 := F20.nin hq21
  have X21 : Ext w20 v21 := by rw [hv21]; exact Ext.rf.new hq21
  have k1233 : OB v21 d 7 := X21.ob k1164
  have k1234 : mI v21 225 d = 0 := by rw [(X21 _ k1164.1).2.2.2.1]; exact k1165
  have k1235 : mI v21 226 d = 0 := by rw [(X21 _ k1164.1).2.2.2.1]; exact k1166
  have k1236 : mI v21 234 d = 0 := by rw [(X21 _ k1164.1).2.2.2.1]; exact k1167
  have k1237 : mI v21 241 d = 0 := by rw [(X21 _ k1164.1).2.2.2.1]; exact k1168
  have k1238 : OB v21 q3 8 := X21.ob k1169
  have k1239 : mN v21 q3 = 8 := by rw [(X21 _ k1169.1).2.2.1]; exact k1170
  have k1240 : ∀ i, mA v21 q3 i = 0 := fun i => by rw [(X21 _ k1169.1).2.2.2.2.2.1]; exact k1171 i
  have k1241 : mR v21 227 d = some q3 := by rw [(X21 _ k1164.1).2.2.2.2.1]; exact k1172
  have k1242 : OB v21 q4 8 := X21.ob k1173
  have k1243 : mN v21 q4 = 8 := by rw [(X21 _ k1173.1).2.2.1]; exact k1174
  have k1244 : ∀ i, mA v21 q4 i = 0 := fun i => by rw [(X21 _ k1173.1).2.2.2.2.2.1]; exact k1175 i
  have k1245 : mR v21 228 d = some q4 := by rw [(X21 _ k1164.1).2.2.2.2.1]; exact k1176
  have k1246 : OB v21 q5 9 := X21.ob k1177
  have k1247 : mN v21 q5 = 8 := by rw [(X21 _ k1177.1).2.2.1]; exact k1178
  have k1248 : ∀ i, mA v21 q5 i = 0 := fun i => by rw [(X21 _ k1177.1).2.2.2.2.2.1]; exact k1179 i
  have k1249 : mR v21 229 d = some q5 := by rw [(X21 _ k1164.1).2.2.2.2.1]; exact k1180
  have k1250 : OB v21 q6 8 := X21.ob k1181
  have k1251 : mN v21 q6 = 24 := by rw [(X21 _ k1181.1).2.2.1]; exact k1182
  have k1252 : ∀ i, mA v21 q6 i = 0 := fun i => by rw [(X21 _ k1181.1).2.2.2.2.2.1]; exact k1183 i
  have k1253 : mR v21 230 d = some q6 := by rw [(X21 _ k1164.1).2.2.2.2.1]; exact k1184
  have k1254 : OB v21 q7 8 := X21.ob k1185
  have k1255 : mN v21 q7 = 4 := by rw [(X21 _ k1185.1).2.2.1]; exact k1186
  have k1256 : ∀ i, mA v21 q7 i = 0 := fun i => by rw [(X21 _ k1185.1).2.2.2.2.2.1]; exact k1187 i
  have k1257 : mR v21 231 d = some q7 := by rw [(X21 _ k1164.1).2.2.2.2.1]; exact k1188
  have k1258 : OB v21 q8 8 := X21.ob k1189
  have k1259 : mN v21 q8 = 4 := by rw [(X21 _ k1189.1).2.2.1]; exact k1190
  have k1260 : ∀ i, mA v21 q8 i = 0 := fun i => by rw [(X21 _ k1189.1).2.2.2.2.2.1]; exact k1191 i
  have k1261 : mR v21 232 d = some q8 := by rw [(X21 _ k1164.1).2.2.2.2.1]; exact k1192
  have k1262 : OB v21 q9 9 := X21.ob k1193
  have k1263 : mN v21 q9 = 4 := by rw [(X21 _ k1193.1).2.2.1]; exact k1194
  have k1264 : ∀ i, mA v21 q9 i = 0 := fun i => by rw [(X21 _ k1193.1).2.2.2.2.2.1]; exact k1195 i
  have k1265 : mR v21 233 d = some q9 := by rw [(X21 _ k1164.1).2.2.2.2.1]; exact k1196
  have k1266 : OB v21 q11 8 := X21.ob k1197
  have k1267 : mN v21 q11 = 60 := by rw [(X21 _ k1197.1).2.2.1]; exact k1198
  have k1268 : ∀ i, mA v21 q11 i = 0 := fun i => by rw [(X21 _ k1197.1).2.2.2.2.2.1]; exact k1199 i
  have k1269 : mR v21 235 d = some q11 := by rw [(X21 _ k1164.1).2.2.2.2.1]; exact k1200
  have k1270 : OB v21 q12 8 := X21.ob k1201
  have k1271 : mN v21 q12 = 60 := by rw [(X21 _ k1201.1).2.2.1]; exact k1202
  have k1272 : ∀ i, mA v21 q12 i = 0 := fun i => by rw [(X21 _ k1201.1).2.2.2.2.2.1]; exact k1203 i
  have k1273 : mR v21 236 d = some q12 := by rw [(X21 _ k1164.1).2.2.2.2.1]; exact k1204
  have k1274 : OB v21 q13 8 := X21.ob k1205
  have k1275 : mN v21 q13 = 60 := by rw [(X21 _ k1205.1).2.2.1]; exact k1206
  have k1276 : ∀ i, mA v21 q13 i = 0 := fun i => by rw [(X21 _ k1205.1).2.2.2.2.2.1]; exact k1207 i
  have k1277 : mR v21 237 d = some q13 := by rw [(X21 _ k1164.1).2.2.2.2.1]; exact k1208
  have k1278 : OB v21 q14 8 := X21.ob k1209
  have k1279 : mN v21 q14 = 60 := by rw [(X21 _ k1209.1).2.2.1]; exact k1210
  have k1280 : ∀ i, mA v21 q14 i = 0 := fun i => by rw [(X21 _ k1209.1).2.2.2.2.2.1]; exact k1211 i
  have k1281 : mR v21 238 d = some q14 := by rw [(X21 _ k1164.1).2.2.2.2.1]; exact k1212
  have k1282 : OB v21 q15 8 := X21.ob k1213
  have k1283 : mN v21 q15 = 60 := by rw [(X21 _ k1213.1).2.2.1]; exact k1214
  have k1284 : ∀ i, mA v21 q15 i = 0 := fun i => by rw [(X21 _ k1213.1).2.2.2.2.2.1]; exact k1215 i
  have k1285 : mR v21 239 d = some q15 := by rw [(X21 _ k1164.1).2.2.2.2.1]; exact k1216
  have k1286 : OB v21 q16 9 := X21.ob k1217
  have k1287 : mN v21 q16 = 60 := by rw [(X21 _ k1217.1).2.2.1]; exact k1218
  have k1288 : ∀ i, mA v21 q16 i = 0 := fun i => by rw [(X21 _ k1217.1).2.2.2.2.2.1]; exact k1219 i
  have k1289 : mR v21 240 d = some q16 := by rw [(X21 _ k1164.1).2.2.2.2.1]; exact k1220
  have k1290 : OB v21 q18 8 := X21.ob k1221
  have k1291 : mN v21 q18 = 300 := by rw [(X21 _ k1221.1).2.2.1]; exact k1222
  have k1292 : ∀ i, mA v21 q18 i = 0 := fun i => by rw [(X21 _ k1221.1).2.2.2.2.2.1]; exact k1223 i
  have k1293 : mR v21 242 d = some q18 := by rw [(X21 _ k1164.1).2.2.2.2.1]; exact k1224
  have k1294 : OB v21 q19 8 := X21.ob k1225
  have k1295 : mN v21 q19 = 300 := by rw [(X21 _ k1225.1).2.2.1]; exact k1226
  have k1296 : ∀ i, mA v21 q19 i = 0 := fun i => by rw [(X21 _ k1225.1).2.2.2.2.2.1]; exact k1227 i
  have k1297 : mR v21 243 d = some q19 := by rw [(X21 _ k1164.1).2.2.2.2.1]; exact k1228
  have k1298 : OB v21 q20 8 := X21.ob k1229
  have k1299 : mN v21 q20 = 300 := by rw [(X21 _ k1229.1).2.2.1]; exact k1230
  have k1300 : ∀ i, mA v21 q20 i = 0 := fun i => by rw [(X21 _ k1229.1).2.2.2.2.2.1]; exact k1231 i
  have k1301 : mR v21 244 d = some q20 := by rw [(X21 _ k1164.1).2.2.2.2.1]; exact k1232
  have k1302 : OB v21 q21 8 := by rw [hv21]; exact (gO_self : OB (mNew w20 q21 8 300) q21 8)
  have k1303 : mN v21 q21 = 300 := by rw [hv21, gN_mNew, if_pos rfl]
  have k1304 : ∀ i, mA v21 q21 i = 0 := fun i => by rw [hv21, gA_mNew, if_pos rfl]
  have D21 : NDf u0 v21 (q21 :: (q20 :: (q19 :: (q18 :: (q16 :: (q15 :: (q14 :: (q13 :: (q12 :: (q11 :: (q9 :: (q8 :: (q7 :: (q6 :: (q5 :: (q4 :: (q3 :: []))))))))))))))))) := NDf_c G20 hq21 X21 k1302.1 q021
  refine ⟨k1233, fun w21 hw21 => ?_⟩
  have k1305 : OB w21 d 7 := by rw [hw21]; exact k1233
  have k1306 : mI w21 225 d = 0 := by rw [hw21]; exact k1234
  have k1307 : mI w21 226 d = 0 := by rw [hw21]; exact k1235
  have k1308 : mI w21 234 d = 0 := by rw [hw21]; exact k1236
  have k1309 : mI w21 241 d = 0 := by rw [hw21]; exact k1237
  have k1310 : OB w21 q3 8 := by rw [hw21]; exact k1238
  have k1311 : mN w21 q3 = 8 := by rw [hw21]; exact k1239
  have k1312 : ∀ i, mA w21 q3 i = 0 := by rw [hw21]; exact k1240
  have k1313 : mR w21 227 d = some q3 := by rw [hw21, gR_setR, if_neg (fun z => absurd z.1 (by decide))]; exact k1241
  have k1314 : OB w21 q4 8 := by rw [hw21]; exact k1242
  have k1315 : mN w21 q4 = 8 := by rw [hw21]; exact k1243
  have k1316 : ∀ i, mA w21 q4 i = 0 := by rw [hw21]; exact k1244
  have k1317 : mR w21 228 d = some q4 := by rw [hw21, gR_setR, if_neg (fun z => absurd z.1 (by decide))]; exact k1245
  have k1318 : OB w21 q5 9 := by rw [hw21]; exact k1246
  have k1319 : mN w21 q5 = 8 := by rw [hw21]; exact k1247
  have k1320 : ∀ i, mA w21 q5 i = 0 := by rw [hw21]; exact k1248
  have k1321 : mR w21 229 d = some q5 := by rw [hw21, gR_setR, if_neg (fun z => absurd z.1 (by decide))]; exact k1249
  have k1322 : OB w21 q6 8 := by rw [hw21]; exact k1250
  have k1323 : mN w21 q6 = 24 := by rw [hw21]; exact k1251
  have k1324 : ∀ i, mA w21 q6 i = 0 := by rw [hw21]; exact k1252
  have k1325 : mR w21 230 d = some q6 := by rw [hw21, gR_setR, if_neg (fun z => absurd z.1 (by decide))]; exact k1253
  have k1326 : OB w21 q7 8 := by rw [hw21]; exact k1254
  have k1327 : mN w21 q7 = 4 := by rw [hw21]; exact k1255
  have k1328 : ∀ i, mA w21 q7 i = 0 := by rw [hw21]; exact k1256
  have k1329 : mR w21 231 d = some q7 := by rw [hw21, gR_setR, if_neg (fun z => absurd z.1 (by decide))]; exact k1257
  have k1330 : OB w21 q8 8 := by rw [hw21]; exact k1258
  have k1331 : mN w21 q8 = 4 := by rw [hw21]; exact k1259
  have k1332 : ∀ i, mA w21 q8 i = 0 := by rw [hw21]; exact k1260
  have k1333 : mR w21 232 d = some q8 := by rw [hw21, gR_setR, if_neg (fun z => absurd z.1 (by decide))]; exact k1261
  have k1334 : OB w21 q9 9 := by rw [hw21]; exact k1262
  have k1335 : mN w21 q9 = 4 := by rw [hw21]; exact k1263
  have k1336 : ∀ i, mA w21 q9 i = 0 := by rw [hw21]; exact k1264
  have k1337 : mR w21 233 d = some q9 := by rw [hw21, gR_setR, if_neg (fun z => absurd z.1 (by decide))]; exact k1265
  have k1338 : OB w21 q11 8 := by rw [hw21]; exact k1266
  have k1339 : mN w21 q11 = 60 := by rw [hw21]; exact k1267
  have k1340 : ∀ i, mA w21 q11 i = 0 := by rw [hw21]; exact k1268
  have k1341 : mR w21 235 d = some q11 := by rw [hw21, gR_setR, if_neg (fun z => absurd z.1 (by decide))]; exact k1269
  have k1342 : OB w21 q12 8 := by rw [hw21]; exact k1270
  have k1343 : mN w21 q12 = 60 := by rw [hw21]; exact k1271
  have k1344 : ∀ i, mA w21 q12 i = 0 := by rw [hw21]; exact k1272
  have k1345 : mR w21 236 d = some q12 := by rw [hw21, gR_setR, if_neg (fun z => absurd z.1 (by decide))]; exact k1273
  have k1346 : OB w21 q13 8 := by rw [hw21]; exact k1274
  have k1347 : mN w21 q13 = 60 := by rw [hw21]; exact k1275
  have k1348 : ∀ i, mA w21 q13 i = 0 := by rw [hw21]; exact k1276
  have k1349 : mR w21 237 d = some q13 := by rw [hw21, gR_setR, if_neg (fun z => absurd z.1 (by decide))]; exact k1277
  have k1350 : OB w21 q14 8 := by rw [hw21]; exact k1278
  have k1351 : mN w21 q14 = 60 := by rw [hw21]; exact k1279
  have k1352 : ∀ i, mA w21 q14 i = 0 := by rw [hw21]; exact k1280
  have k1353 : mR w21 238 d = some q14 := by rw [hw21, gR_setR, if_neg (fun z => absurd z.1 (by decide))]; exact k1281
  have k1354 : OB w21 q15 8 := by rw [hw21]; exact k1282
  have k1355 : mN w21 q15 = 60 := by rw [hw21]; exact k1283
  have k1356 : ∀ i, mA w21 q15 i = 0 := by rw [hw21]; exact k1284
  have k1357 : mR w21 239 d = some q15 := by rw [hw21, gR_setR, if_neg (fun z => absurd z.1 (by decide))]; exact k1285
  have k1358 : OB w21 q16 9 := by rw [hw21]; exact k1286
  have k1359 : mN w21 q16 = 60 := by rw [hw21]; exact k1287
  have k1360 : ∀ i, mA w21 q16 i = 0 := by rw [hw21]; exact k1288
  have k1361 : mR w21 240 d = some q16 := by rw [hw21, gR_setR, if_neg (fun z => absurd z.1 (by decide))]; exact k1289
  have k1362 : OB w21 q18 8 := by rw [hw21]; exact k1290
  have k1363 : mN w21 q18 = 300 := by rw [hw21]; exact k1291
  have k1364 : ∀ i, mA w21 q18 i = 0 := by rw [hw21]; exact k1292
  have k1365 : mR w21 242 d = some q18 := by rw [hw21, gR_setR, if_neg (fun z => absurd z.1 (by decide))]; exact k1293
  have k1366 : OB w21 q19 8 := by rw [hw21]; exact k1294
  have k1367 : mN w21 q19 = 300 := by rw [hw21]; exact k1295
  have k1368 : ∀ i, mA w21 q19 i = 0 := by rw [hw21]; exact k1296
  have k1369 : mR w21 243 d = some q19 := by rw [hw21, gR_setR, if_neg (fun z => absurd z.1 (by decide))]; exact k1297
  have k1370 : OB w21 q20 8 := by rw [hw21]; exact k1298
  have k1371 : mN w21 q20 = 300 := by rw [hw21]; exact k1299
  have k1372 : ∀ i, mA w21 q20 i = 0 := by rw [hw21]; exact k1300
  have k1373 : mR w21 244 d = some q20 := by rw [hw21, gR_setR, if_neg (fun z => absurd z.1 (by decide))]; exact k1301
  have k1374 : OB w21 q21 8 := by rw [hw21]; exact k1302
  have k1375 : mN w21 q21 = 300 := by rw [hw21]; exact k1303
  have k1376 : ∀ i, mA w21 q21 i = 0 := by rw [hw21]; exact k1304
  have k1377 : mR w21 245 d = some q21 := by rw [hw21, gR_setR, if_pos ⟨rfl, rfl⟩]
  have F21 : Ext u0 w21 := by rw [hw21]; exact (F20.tr X21).setR hd0 _ _
  have G21 : NDf u0 w21 (q21 :: (q20 :: (q19 :: (q18 :: (q16 :: (q15 :: (q14 :: (q13 :: (q12 :: (q11 :: (q9 :: (q8 :: (q7 :: (q6 :: (q5 :: (q4 :: (q3 :: []))))))))))))))))) := by rw [hw21]; exact D21
  clear hv21 hw21 X21 D21
  refine ⟨9, c_f143 (q := q4) 8 0 _ _ w21 (by omega) k1305 k1317 k1314 k1315 (fun x1 hx1 => ⟨25, ?_⟩)⟩
  refine c_f164 (q := q6) 24 0 _ _ x1 (by omega) ((FA_ob hx1 _ _).mpr k1305) (by rw [hx1.2.2.2.2.1]; exact k1325) ((FA_ob hx1 _ _).mpr k1322) (by rw [hx1.2.2.1]; exact k1323) (fun x2 hx2 => ⟨5, ?_⟩)
  refine c_f186 (q := q8) 4 0 _ _ x2 (by omega) ((FA_ob hx2 _ _).mpr ((FA_ob hx1 _ _).mpr k1305)) (by rw [hx2.2.2.2.2.1, hx1.2.2.2.2.1]; exact k1333) ((FA_ob hx2 _ _).mpr ((FA_ob hx1 _ _).mpr k1330)) (by rw [hx2.2.2.1, hx1.2.2.1]; exact k1331) (fun x3 hx3 => ?_)
  have hND := G21.1
  have hA : ∀ a j, mA x3 a j = if a = q8 ∧ 0 ≤ j ∧ j < 4 then 50 else if a = q6 ∧ 0 ≤ j ∧ j < 24 then 7 else if a = q4 ∧ 0 ≤ j ∧ j < 8 then 1 else mA w21 a j := fun a j => by rw [hx3.2.2.2.2.2.2, hx2.2.2.2.2.2.2, hx1.2.2.2.2.2.2]
  have hO : ∀ a k, OB w21 a k → OB x3 a k := fun a k h => (FA_ob hx3 _ _).mpr ((FA_ob hx2 _ _).mpr ((FA_ob hx1 _ _).mpr h))
  have hR : mR x3 = mR w21 := by rw [hx3.2.2.2.2.1, hx2.2.2.2.2.1, hx1.2.2.2.2.1]
  have hN : mN x3 = mN w21 := by rw [hx3.2.2.1, hx2.2.2.1, hx1.2.2.1]
  have hI : mI x3 = mI w21 := by rw [hx3.2.2.2.1, hx2.2.2.2.1, hx1.2.2.2.1]
  have hl : ∀ x, x ∈ (q21 :: (q20 :: (q19 :: (q18 :: (q16 :: (q15 :: (q14 :: (q13 :: (q12 :: (q11 :: (q9 :: (q8 :: (q7 :: (q6 :: (q5 :: (q4 :: (q3 :: []))))))))))))))))) → x ∉ mL u0 := fun x hx => (G21.2 x hx).2
  have n86 : q8 ≠ q6 := fun e => absurd (nd_inj _ 11 13 hND (by simp) (by simp) (by simpa using e)) (by decide)
  have n84 : q8 ≠ q4 := fun e => absurd (nd_inj _ 11 15 hND (by simp) (by simp) (by simpa using e)) (by decide)
  have n64 : q6 ≠ q4 := fun e => absurd (nd_inj _ 13 15 hND (by simp) (by simp) (by simpa using e)) (by decide)
  have n3_8 : q3 ≠ q8 := fun e => absurd (nd_inj _ 16 11 hND (by simp) (by simp) (by simpa using e)) (by decide)
  have n3_6 : q3 ≠ q6 := fun e => absurd (nd_inj _ 16 13 hND (by simp) (by simp) (by simpa using e)) (by decide)
  have n3_4 : q3 ≠ q4 := fun e => absurd (nd_inj _ 16 15 hND (by simp) (by simp) (by simpa using e)) (by decide)
  have n5_8 : q5 ≠ q8 := fun e => absurd (nd_inj _ 14 11 hND (by simp) (by simp) (by simpa using e)) (by decide)
  have n5_6 : q5 ≠ q6 := fun e => absurd (nd_inj _ 14 13 hND (by simp) (by simp) (by simpa using e)) (by decide)
  have n5_4 : q5 ≠ q4 := fun e => absurd (nd_inj _ 14 15 hND (by simp) (by simp) (by simpa using e)) (by decide)
  have n7_8 : q7 ≠ q8 := fun e => absurd (nd_inj _ 12 11 hND (by simp) (by simp) (by simpa using e)) (by decide)
  have n7_6 : q7 ≠ q6 := fun e => absurd (nd_inj _ 12 13 hND (by simp) (by simp) (by simpa using e)) (by decide)
  have n7_4 : q7 ≠ q4 := fun e => absurd (nd_inj _ 12 15 hND (by simp) (by simp) (by simpa using e)) (by decide)
  have n9_8 : q9 ≠ q8 := fun e => absurd (nd_inj _ 10 11 hND (by simp) (by simp) (by simpa using e)) (by decide)
  have n9_6 : q9 ≠ q6 := fun e => absurd (nd_inj _ 10 13 hND (by simp) (by simp) (by simpa using e)) (by decide)
  have n9_4 : q9 ≠ q4 := fun e => absurd (nd_inj _ 10 15 hND (by simp) (by simp) (by simpa using e)) (by decide)
  have n11_8 : q11 ≠ q8 := fun e => absurd (nd_inj _ 9 11 hND (by simp) (by simp) (by simpa using e)) (by decide)
  have n11_6 : q11 ≠ q6 := fun e => absurd (nd_inj _ 9 13 hND (by simp) (by simp) (by simpa using e)) (by decide)
  have n11_4 : q11 ≠ q4 := fun e => absurd (nd_inj _ 9 15 hND (by simp) (by simp) (by simpa using e)) (by decide)
  have n12_8 : q12 ≠ q8 := fun e => absurd (nd_inj _ 8 11 hND (by simp) (by simp) (by simpa using e)) (by decide)
  have n12_6 : q12 ≠ q6 := fun e => absurd (nd_inj _ 8 13 hND (by simp) (by simp) (by simpa using e)) (by decide)
  have n12_4 : q12 ≠ q4 := fun e => absurd (nd_inj _ 8 15 hND (by simp) (by simp) (by simpa using e)) (by decide)
  have n13_8 : q13 ≠ q8 := fun e => absurd (nd_inj _ 7 11 hND (by simp) (by simp) (by simpa using e)) (by decide)
  have n13_6 : q13 ≠ q6 := fun e => absurd (nd_inj _ 7 13 hND (by simp) (by simp) (by simpa using e)) (by decide)
  have n13_4 : q13 ≠ q4 := fun e => absurd (nd_inj _ 7 15 hND (by simp) (by simp) (by simpa using e)) (by decide)
  have n14_8 : q14 ≠ q8 := fun e => absurd (nd_inj _ 6 11 hND (by simp) (by simp) (by simpa using e)) (by decide)
  have n14_6 : q14 ≠ q6 := fun e => absurd (nd_inj _ 6 13 hND (by simp) (by simp) (by simpa using e)) (by decide)
  have n14_4 : q14 ≠ q4 := fun e => absurd (nd_inj _ 6 15 hND (by simp) (by simp) (by simpa using e)) (by decide)
  have n15_8 : q15 ≠ q8 := fun e => absurd (nd_inj _ 5 11 hND (by simp) (by simp) (by simpa using e)) (by decide)
  have n15_6 : q15 ≠ q6 := fun e => absurd (nd_inj _ 5 13 hND (by simp) (by simp) (by simpa using e)) (by decide)
  have n15_4 : q15 ≠ q4 := fun e => absurd (nd_inj _ 5 15 hND (by simp) (by simp) (by simpa using e)) (by decide)
  have n16_8 : q16 ≠ q8 := fun e => absurd (nd_inj _ 4 11 hND (by simp) (by simp) (by simpa using e)) (by decide)
  have n16_6 : q16 ≠ q6 := fun e => absurd (nd_inj _ 4 13 hND (by simp) (by simp) (by simpa using e)) (by decide)
  have n16_4 : q16 ≠ q4 := fun e => absurd (nd_inj _ 4 15 hND (by simp) (by simp) (by simpa using e)) (by decide)
  have n18_8 : q18 ≠ q8 := fun e => absurd (nd_inj _ 3 11 hND (by simp) (by simp) (by simpa using e)) (by decide)
  have n18_6 : q18 ≠ q6 := fun e => absurd (nd_inj _ 3 13 hND (by simp) (by simp) (by simpa using e)) (by decide)
  have n18_4 : q18 ≠ q4 := fun e => absurd (nd_inj _ 3 15 hND (by simp) (by simp) (by simpa using e)) (by decide)
  have n19_8 : q19 ≠ q8 := fun e => absurd (nd_inj _ 2 11 hND (by simp) (by simp) (by simpa using e)) (by decide)
  have n19_6 : q19 ≠ q6 := fun e => absurd (nd_inj _ 2 13 hND (by simp) (by simp) (by simpa using e)) (by decide)
  have n19_4 : q19 ≠ q4 := fun e => absurd (nd_inj _ 2 15 hND (by simp) (by simp) (by simpa using e)) (by decide)
  have n20_8 : q20 ≠ q8 := fun e => absurd (nd_inj _ 1 11 hND (by simp) (by simp) (by simpa using e)) (by decide)
  have n20_6 : q20 ≠ q6 := fun e => absurd (nd_inj _ 1 13 hND (by simp) (by simp) (by simpa using e)) (by decide)
  have n20_4 : q20 ≠ q4 := fun e => absurd (nd_inj _ 1 15 hND (by simp) (by simp) (by simpa using e)) (by decide)
  have n21_8 : q21 ≠ q8 := fun e => absurd (nd_inj _ 0 11 hND (by simp) (by simp) (by simpa using e)) (by decide)
  have n21_6 : q21 ≠ q6 := fun e => absurd (nd_inj _ 0 13 hND (by simp) (by simp) (by simpa using e)) (by decide)
  have n21_4 : q21 ≠ q4 := fun e => absurd (nd_inj _ 0 15 hND (by simp) (by simp) (by simpa using e)) (by decide)
  refine hK x3 (fun k => (q21 :: (q20 :: (q19 :: (q18 :: (q16 :: (q15 :: (q14 :: (q13 :: (q12 :: (q11 :: (q9 :: (q8 :: (q7 :: (q6 :: (q5 :: (q4 :: (q3 :: []))))))))))))))))).getD (mpos k) 0) (FA_ext (FA_ext (FA_ext F21 q04 hx1) q06 hx2) q08 hx3) ⟨hO _ _ k1305, by rw [hI]; exact k1306, by rw [hI]; exact k1307, by rw [hI]; exact k1308, by rw [hI]; exact k1309, fun k hk => ?_⟩ (fun i j hi hj e => ?_) (fun k hk => hl _ ?_)
  · have hk2 : k = 3 ∨ k = 4 ∨ k = 5 ∨ k = 6 ∨ k = 7 ∨ k = 8 ∨ k = 9 ∨ k = 11 ∨ k = 12 ∨ k = 13 ∨ k = 14 ∨ k = 15 ∨ k = 16 ∨ k = 18 ∨ k = 19 ∨ k = 20 ∨ k = 21 := by unfold ak at hk; omega
    rcases hk2 with rfl | rfl | rfl | rfl | rfl | rfl | rfl | rfl | rfl | rfl | rfl | rfl | rfl | rfl | rfl | rfl | rfl
    · exact ⟨by rw [hR]; exact k1313, hO _ _ k1310, by rw [hN]; exact k1311, fun i hi => by rw [hA, if_neg (fun z => n3_8 z.1), if_neg (fun z => n3_6 z.1), if_neg (fun z => n3_4 z.1)]; exact k1312 i⟩
    · exact ⟨by rw [hR]; exact k1317, hO _ _ k1314, by rw [hN]; exact k1315, fun i hi => by rw [hA, if_neg (fun z => n84 z.1.symm), if_neg (fun z => n64 z.1.symm), if_pos ⟨rfl, Nat.zero_le _, hi⟩]; rfl⟩
    · exact ⟨by rw [hR]; exact k1321, hO _ _ k1318, by rw [hN]; exact k1319, fun i hi => by rw [hA, if_neg (fun z => n5_8 z.1), if_neg (fun z => n5_6 z.1), if_neg (fun z => n5_4 z.1)]; exact k1320 i⟩
    · exact ⟨by rw [hR]; exact k1325, hO _ _ k1322, by rw [hN]; exact k1323, fun i hi => by rw [hA, if_neg (fun z => n86 z.1.symm), if_pos ⟨rfl, Nat.zero_le _, hi⟩]; rfl⟩
    · exact ⟨by rw [hR]; exact k1329, hO _ _ k1326, by rw [hN]; exact k1327, fun i hi => by rw [hA, if_neg (fun z => n7_8 z.1), if_neg (fun z => n7_6 z.1), if_neg (fun z => n7_4 z.1)]; exact k1328 i⟩
    · exact ⟨by rw [hR]; exact k1333, hO _ _ k1330, by rw [hN]; exact k1331, fun i hi => by rw [hA, if_pos ⟨rfl, Nat.zero_le _, hi⟩]; rfl⟩
    · exact ⟨by rw [hR]; exact k1337, hO _ _ k1334, by rw [hN]; exact k1335, fun i hi => by rw [hA, if_neg (fun z => n9_8 z.1), if_neg (fun z => n9_6 z.1), if_neg (fun z => n9_4 z.1)]; exact k1336 i⟩
    · exact ⟨by rw [hR]; exact k1341, hO _ _ k1338, by rw [hN]; exact k1339, fun i hi => by rw [hA, if_neg (fun z => n11_8 z.1), if_neg (fun z => n11_6 z.1), if_neg (fun z => n11_4 z.1)]; exact k1340 i⟩
    · exact ⟨by rw [hR]; exact k1345, hO _ _ k1342, by rw [hN]; exact k1343, fun i hi => by rw [hA, if_neg (fun z => n12_8 z.1), if_neg (fun z => n12_6 z.1), if_neg (fun z => n12_4 z.1)]; exact k1344 i⟩
    · exact ⟨by rw [hR]; exact k1349, hO _ _ k1346, by rw [hN]; exact k1347, fun i hi => by rw [hA, if_neg (fun z => n13_8 z.1), if_neg (fun z => n13_6 z.1), if_neg (fun z => n13_4 z.1)]; exact k1348 i⟩
    · exact ⟨by rw [hR]; exact k1353, hO _ _ k1350, by rw [hN]; exact k1351, fun i hi => by rw [hA, if_neg (fun z => n14_8 z.1), if_neg (fun z => n14_6 z.1), if_neg (fun z => n14_4 z.1)]; exact k1352 i⟩
    · exact ⟨by rw [hR]; exact k1357, hO _ _ k1354, by rw [hN]; exact k1355, fun i hi => by rw [hA, if_neg (fun z => n15_8 z.1), if_neg (fun z => n15_6 z.1), if_neg (fun z => n15_4 z.1)]; exact k1356 i⟩
    · exact ⟨by rw [hR]; exact k1361, hO _ _ k1358, by rw [hN]; exact k1359, fun i hi => by rw [hA, if_neg (fun z => n16_8 z.1), if_neg (fun z => n16_6 z.1), if_neg (fun z => n16_4 z.1)]; exact k1360 i⟩
    · exact ⟨by rw [hR]; exact k1365, hO _ _ k1362, by rw [hN]; exact k1363, fun i hi => by rw [hA, if_neg (fun z => n18_8 z.1), if_neg (fun z => n18_6 z.1), if_neg (fun z => n18_4 z.1)]; exact k1364 i⟩
    · exact ⟨by rw [hR]; exact k1369, hO _ _ k1366, by rw [hN]; exact k1367, fun i hi => by rw [hA, if_neg (fun z => n19_8 z.1), if_neg (fun z => n19_6 z.1), if_neg (fun z => n19_4 z.1)]; exact k1368 i⟩
    · exact ⟨by rw [hR]; exact k1373, hO _ _ k1370, by rw [hN]; exact k1371, fun i hi => by rw [hA, if_neg (fun z => n20_8 z.1), if_neg (fun z => n20_6 z.1), if_neg (fun z => n20_4 z.1)]; exact k1372 i⟩
    · exact ⟨by rw [hR]; exact k1377, hO _ _ k1374, by rw [hN]; exact k1375, fun i hi => by rw [hA, if_neg (fun z => n21_8 z.1), if_neg (fun z => n21_6 z.1), if_neg (fun z => n21_4 z.1)]; exact k1376 i⟩
  · have := nd_inj _ _ _ hND (mpos_lt hi) (mpos_lt hj) e
    unfold mpos at this; unfold ak at hi hj; split at this <;> split at this <;> (try split at this) <;> (try split at this) <;> omega
  · show (q21 :: (q20 :: (q19 :: (q18 :: (q16 :: (q15 :: (q14 :: (q13 :: (q12 :: (q11 :: (q9 :: (q8 :: (q7 :: (q6 :: (q5 :: (q4 :: (q3 :: []))))))))))))))))).getD (mpos k) 0 ∈ _
    rw [List.getD_eq_getElem?_getD, List.getElem?_eq_getElem (mpos_lt hk)]; exact List.getElem_mem _
end S2P
