section S2B
variable {B : Nat → Nat → Nat} {G : Ctx} {s z s2 : Nat → Nat → Int32} {t : Nat → Nat → Nat} {ka : List Nat} {u : Mem} {n m : Nat}
def dn (s : Nat → Nat → Int32) (w e : Nat) : Nat := dst (s 7 e).toNatClampNeg (s 11 w).toNatClampNeg
def bet (s : Nat → Nat → Int32) (w e b : Nat) : Prop := dn s w e < dn s w b ∨ (dn s w e = dn s w b ∧ s 8 b < s 8 e)
theorem dnv {w e : Nat} (hW : Iw s n m) (hw : w < n) (he : e < 4) : ∃ a f, a < 8 ∧ f < 8 ∧ s 7 e = nI a ∧ s 11 w = nI f ∧ dn s w e = dst a f ∧ dn s w e < 5 := by
  obtain ⟨a, ha, z7⟩ := hW.2.2.2.2.1 e he
  obtain ⟨f, d, hf, hd, e11, e12⟩ := hW.2.2.2.2.2.2.1 w hw
  have e1 : dn s w e = dst a f := by unfold dn; rw [z7, e11, nI_clamp (by omega), nI_clamp (by omega)]
  exact ⟨a, f, ha, hf, z7, e11, e1, by rw [e1]; exact dst_lt a ha f hf⟩
theorem c_bet {w e b : Nat} (hW : Iw s n m) (hw : w < n) (he : e < 4) (hb : b < 4) (h : S2 B G s t ka s2 u) {K : Int32 → Mem → Prop} (hY : bet s w e b → K 1 u) (hN : ¬ bet s w e b → K 0 u) : w_X5_isBetter G (B 3 e) (B 3 b) (s 11 w) u K := by
  obtain ⟨a, f, ha, hf, z7, z11, d1, d2⟩ := dnv hW hw he
  obtain ⟨a', f', ha', hf', z7', z11', d1', d2'⟩ := dnv hW hw hb
  have ef : f' = f := by
    have := z11.symm.trans z11'
    exact ((nI_eq (by omega) (by omega)).mp this).symm
  subst ef
  have ge := fe h he
  have gb := fe h hb
  refine ⟨ge.2.1, ?_⟩
  rw [ge.2.2.2.1, z7, z11]
  refine c_dist ha hf ⟨gb.2.1, ?_⟩
  rw [gb.2.2.2.1, z7']
  refine c_dist ha' hf ?_
  rw [← d1, ← d1', nI_ltI (by omega) (by omega), nI_eq (by omega) (by omega)]
  refine ⟨fun z => ⟨.inr rfl, hY (.inl z)⟩, fun z => ⟨fun z2 => ⟨ge.2.1, gb.2.1, ?_⟩, fun z2 => ⟨.inl rfl, hN (fun y => ?_)⟩⟩⟩
  · rw [ge.2.2.2.2.1, gb.2.2.2.2.1]
    refine ⟨fun z3 => ⟨.inl rfl, hN (fun y => ?_)⟩, fun z3 => ⟨.inr rfl, hY (.inr ⟨z2, Int32.not_le.mp z3⟩)⟩⟩
    rcases y with y | ⟨_, y⟩
    · exact z y
    · exact absurd z3 (Int32.not_le.mpr y)
  · rcases y with y | ⟨y, _⟩
    · exact z y
    · exact z2 y
def bi (b : Option Nat) : Int32 := match b with | none => -1 | some b => nI b
theorem I_send2 {w e : Nat} (hW : Iw s n m) (hw : w < n) (he : e < 4) : Iw (up2 (up2 (up2 s 14 w (nI e)) 13 w 1) 9 e 1) n m := Iw_st (I_send hW hw he) (kf_cong m rfl (fun j => rfl))
theorem up3 (s : Nat → Nat → Int32) (w e : Nat) (x : Int32) : up2 (up2 (up2 s 9 e 1) 14 w x) 13 w 1 = up2 (up2 (up2 s 14 w x) 13 w 1) 9 e 1 := by
  rw [up2_comm s 1 x (.inl (by decide)), up2_comm (up2 s 14 w x) 1 1 (.inl (by decide))]
def bm (s : Nat → Nat → Int32) (w : Nat) (b : Option Nat) : Int32 := match b with | none => -1 | some b => nI (1000 * (8 - dn s w b) + (s 8 b).toNatClampNeg)
def ky (s : Nat → Nat → Int32) (w e : Nat) : Nat := 1000 * (8 - dn s w e) + (s 8 e).toNatClampNeg
theorem kyv {w e : Nat} (hW : Iw s n m) (hw : w < n) (he : e < 4) : ∃ r, r ≤ 100 ∧ s 8 e = nI r ∧ ky s w e = 1000 * (8 - dn s w e) + r ∧ dn s w e < 5 := by
  obtain ⟨a, f, _, _, _, _, _, d2⟩ := dnv hW hw he
  obtain ⟨r, hr, er⟩ := hW.2.2.2.2.2.1 e he
  exact ⟨r, hr, er, by unfold ky; rw [er, nI_clamp (by omega)], d2⟩
theorem bet_iff {w e b : Nat} (hW : Iw s n m) (hw : w < n) (he : e < 4) (hb : b < 4) : bet s w e b ↔ ky s w b < ky s w e := by
  obtain ⟨r, hr, er, ek, ed⟩ := kyv hW hw he
  obtain ⟨r', hr', er', ek', ed'⟩ := kyv hW hw hb
  unfold bet
  rw [ek, ek', er, er', nI_ltI (by omega) (by omega)]
  omega
/-- the best of the free escorts from lo on, before hi -/
def Bst (s : Nat → Nat → Int32) (w lo hi : Nat) (b : Option Nat) : Prop := (∀ k, b = some k → lo ≤ k ∧ k < hi ∧ s 9 k = 0 ∧ ∀ j, lo ≤ j → j < hi → s 9 j = 0 → ky s w j ≤ ky s w k ∧ (ky s w j = ky s w k → k ≤ j)) ∧ (b = none → ∀ j, lo ≤ j → j < hi → ¬ s 9 j = 0)
theorem Bst_uniq {w lo hi : Nat} {b b' : Option Nat} (h : Bst s w lo hi b) (h' : Bst s w lo hi b') : b = b' := by
  cases b with
  | none =>
    cases b' with
    | none => rfl
    | some k => obtain ⟨q1, q2, q3, _⟩ := h'.1 k rfl; exact absurd q3 (h.2 rfl k q1 q2)
  | some k =>
    obtain ⟨q1, q2, q3, q4⟩ := h.1 k rfl
    cases b' with
    | none => exact absurd q3 (h'.2 rfl k q1 q2)
    | some k' =>
      obtain ⟨r1, r2, r3, r4⟩ := h'.1 k' rfl
      have a1 := q4 k' r1 r2 r3
      have a2 := r4 k q1 q2 q3
      have e1 : ky s w k = ky s w k' := by omega
      have e2 := a1.2 e1.symm
      have e3 := a2.2 e1
      rw [show k = k' by omega]
theorem Bu_busy {w e : Nat} {b : Option Nat} (h : Bst s w 0 e b) (hz : ¬ s 9 e = 0) : Bst s w 0 (e + 1) b := by
  refine ⟨fun k hk => ?_, fun hb j h1 h2 => ?_⟩
  · obtain ⟨q1, q2, q3, q4⟩ := h.1 k hk
    refine ⟨q1, by omega, q3, fun j h1 h2 hj => ?_⟩
    rcases Nat.lt_or_ge j e with y | y
    · exact q4 j h1 y hj
    · exact absurd (show s 9 e = 0 by rw [← show j = e by omega]; exact hj) hz
  · rcases Nat.lt_or_ge j e with y | y
    · exact h.2 hb j h1 y
    · rw [show j = e by omega]; exact hz
theorem Bu_none {w e : Nat} (h : Bst s w 0 e none) (hz : s 9 e = 0) : Bst s w 0 (e + 1) (some e) := by
  refine ⟨fun k hk => ?_, fun hb => by cases hb⟩
  cases hk
  refine ⟨Nat.zero_le _, by omega, hz, fun j h1 h2 hj => ?_⟩
  rcases Nat.lt_or_ge j e with y | y
  · exact absurd hj (h.2 rfl j h1 y)
  · rw [show j = e by omega]; exact ⟨Nat.le_refl _, fun _ => Nat.le_refl _⟩
theorem Bu_more {w e k : Nat} (h : Bst s w 0 e (some k)) (hz : s 9 e = 0) (hk : ky s w k < ky s w e) : Bst s w 0 (e + 1) (some e) := by
  obtain ⟨q1, q2, q3, q4⟩ := h.1 k rfl
  refine ⟨fun k' hk' => ?_, fun hb => by cases hb⟩
  cases hk'
  refine ⟨Nat.zero_le _, by omega, hz, fun j h1 h2 hj => ?_⟩
  rcases Nat.lt_or_ge j e with y | y
  · have := q4 j h1 y hj; omega
  · rw [show j = e by omega]; exact ⟨Nat.le_refl _, fun _ => Nat.le_refl _⟩
theorem Bu_less {w e k : Nat} (h : Bst s w 0 e (some k)) (hk : ¬ ky s w k < ky s w e) : Bst s w 0 (e + 1) (some k) := by
  obtain ⟨q1, q2, q3, q4⟩ := h.1 k rfl
  refine ⟨fun k' hk' => ?_, fun hb => by cases hb⟩
  cases hk'
  refine ⟨q1, by omega, q3, fun j h1 h2 hj => ?_⟩
  rcases Nat.lt_or_ge j e with y | y
  · exact q4 j h1 y hj
  · rw [show j = e by omega]; exact ⟨by omega, fun _ => by omega⟩
theorem Bd_busy {w e : Nat} {b : Option Nat} (h : Bst s w (e + 1) 4 b) (hz : ¬ s 9 e = 0) : Bst s w e 4 b := by
  refine ⟨fun k hk => ?_, fun hb j h1 h2 => ?_⟩
  · obtain ⟨q1, q2, q3, q4⟩ := h.1 k hk
    refine ⟨by omega, q2, q3, fun j h1 h2 hj => ?_⟩
    rcases Nat.eq_or_lt_of_le h1 with y | y
    · exact absurd (show s 9 e = 0 by rw [y]; exact hj) hz
    · exact q4 j y h2 hj
  · rcases Nat.eq_or_lt_of_le h1 with y | y
    · rw [← y]; exact hz
    · exact h.2 hb j y h2
theorem Bd_take {w e : Nat} {b : Option Nat} (he : e < 4) (h : Bst s w (e + 1) 4 b) (hz : s 9 e = 0) (hk : ∀ k, b = some k → ky s w k ≤ ky s w e) : Bst s w e 4 (some e) := by
  refine ⟨fun k' hk' => ?_, fun hb => by cases hb⟩
  cases hk'
  refine ⟨Nat.le_refl _, he, hz, fun j h1 h2 hj => ?_⟩
  rcases Nat.eq_or_lt_of_le h1 with y | y
  · rw [← y]; exact ⟨Nat.le_refl _, fun _ => Nat.le_refl _⟩
  · cases b with
    | none => exact absurd hj (h.2 rfl j y h2)
    | some k =>
      obtain ⟨q1, q2, q3, q4⟩ := h.1 k rfl
      have a1 := q4 j y h2 hj
      have a2 := hk k rfl
      exact ⟨by omega, fun _ => by omega⟩
theorem Bd_less {w e k : Nat} (h : Bst s w (e + 1) 4 (some k)) (hk : ky s w e < ky s w k) : Bst s w e 4 (some k) := by
  obtain ⟨q1, q2, q3, q4⟩ := h.1 k rfl
  refine ⟨fun k' hk' => ?_, fun hb => by cases hb⟩
  cases hk'
  refine ⟨by omega, q2, q3, fun j h1 h2 hj => ?_⟩
  rcases Nat.eq_or_lt_of_le h1 with y | y
  · rw [← y]; exact ⟨by omega, fun _ => by omega⟩
  · exact q4 j y h2 hj
/-- the class' choice -/
theorem cbest {w : Nat} (hW : Iw s n m) (hw : w < n) : ∀ (d e : Nat) (b : Option Nat), e + d = 4 → Bst s w 0 e b → ∃ b' : Option Nat, Bst s w 0 4 b' ∧
    (∀ (B : Nat → Nat → Nat) (G : Ctx) (t : Nat → Nat → Nat) (ka : List Nat) (σ : Nat → Nat → Int32) (u : Mem) (K : Option Nat → Mem → Prop), S2 B G s t ka σ u → K (b'.map (B 3)) u → w_X5_bestFreeEscort_4 G (B 0 0) (s 11 w) K (d + 1) (b.map (B 3)) (nI e) u) := by
  intro d
  induction d with
  | zero =>
    intro e b he hb
    have e4 : e = 4 := by omega
    subst e4
    refine ⟨b, hb, fun B G t ka σ u K h hK => ?_⟩
    obtain ⟨f1, f2, f3, f4, f5, f6, f7, f8, f9, f10, f11, f12, f13, f14, f15, f16, f17, f18, f19, f20, f21, f22⟩ := fd h
    rw [wS_X5_bestFreeEscort_4]
    refine ⟨f1, fun r hr => ⟨_, hr.trans f3, f10, ?_⟩⟩
    rw [f11]
    exact ⟨fun _ => hK, fun y => absurd (by decide) y⟩
  | succ d ih =>
    intro e b hed hb
    have he : e < 4 := by omega
    have ce := nIc (i := e) (N := 4) he (by decide)
    have ve := vp_in_nI (n := e) (N := 4) he (by decide)
    have n4 : ¬ ((4 : Int32) ≤ nI e) := nI_ge (a := e) (b := 4) he (by omega)
    have turn : ∀ b1 : Option Nat, Bst s w 0 (e + 1) b1 →
        (∀ (B : Nat → Nat → Nat) (G : Ctx) (t : Nat → Nat → Nat) (ka : List Nat) (σ : Nat → Nat → Int32) (u : Mem) (J : Option Nat → Int32 → Mem → Prop) (K : Option Nat → Mem → Prop), S2 B G s t ka σ u → J (b1.map (B 3)) (nI e + 1) u → b_X5_bestFreeEscort_4 G (B 0 0) (s 11 w) K J (b.map (B 3)) (nI e) u) →
        ∃ b' : Option Nat, Bst s w 0 4 b' ∧ (∀ (B : Nat → Nat → Nat) (G : Ctx) (t : Nat → Nat → Nat) (ka : List Nat) (σ : Nat → Nat → Int32) (u : Mem) (K : Option Nat → Mem → Prop), S2 B G s t ka σ u → K (b'.map (B 3)) u → w_X5_bestFreeEscort_4 G (B 0 0) (s 11 w) K (d + 1 + 1) (b.map (B 3)) (nI e) u) := by
      intro b1 hb1 hC
      obtain ⟨b', p1, p3⟩ := ih (e + 1) b1 (by omega) hb1
      refine ⟨b', p1, fun B G t ka σ u K h hK => ?_⟩
      rw [wS_X5_bestFreeEscort_4]
      refine hC B G t ka σ u _ K h ?_
      rw [nI_1]
      exact p3 B G t ka σ u K h hK
    have cpre : ∀ (B : Nat → Nat → Nat) (G : Ctx) (t : Nat → Nat → Nat) (ka : List Nat) (σ : Nat → Nat → Int32) (u : Mem) (J : Option Nat → Int32 → Mem → Prop) (K : Option Nat → Mem → Prop), S2 B G s t ka σ u → (¬ s 9 e = 0 → J (b.map (B 3)) (nI e + 1) u) → (s 9 e = 0 → b = none → J (some (B 3 e)) (nI e + 1) u) → (s 9 e = 0 → ∀ k, b = some k → w_X5_isBetter G (B 3 e) (B 3 k) (s 11 w) u (fun r35 u34 => ((r35 = 0 → (w_X5_bestFreeEscort_51 G (B 0 0) (s 11 w) K J (some (B 3 k)) (nI e) u34)) ∧ (¬ r35 = 0 → (w_X5_bestFreeEscort_48 G (B 0 0) (s 11 w) K J (nI e) (B 3 e) u34))))) → b_X5_bestFreeEscort_4 G (B 0 0) (s 11 w) K J (b.map (B 3)) (nI e) u := by
      intro B G t ka σ u J K h q1 q2 q3
      obtain ⟨f1, f2, f3, f4, f5, f6, f7, f8, f9, f10, f11, f12, f13, f14, f15, f16, f17, f18, f19, f20, f21, f22⟩ := fd h
      have ge := fe h he
      refine ⟨f1, fun r hr => ⟨_, hr.trans f3, f10, ?_⟩⟩
      rw [f11]
      refine ⟨fun y => absurd y n4, fun _ => ⟨f1, fun r hr => ⟨_, hr.trans f3, f10, by rw [f11]; exact ve, ?_⟩⟩⟩
      rw [ce, ge.1]
      refine fun r30 hr30 => ⟨fun y => (by rw [y] at hr30; cases hr30), fun a31 h31 => ?_⟩
      rw [h31] at hr30
      have ha31 := Option.some.inj hr30
      subst ha31
      refine ⟨ge.2.1, ?_⟩
      rw [ge.2.2.2.2.2]
      by_cases hz : s 9 e = 0
      · rw [if_pos hz]
        refine ⟨fun y => absurd y (by decide), fun _ => ⟨fun y => ?_, fun a33 h33 => ?_⟩⟩
        · exact q2 hz (by cases b with | none => rfl | some k => cases y)
        · cases hb2 : b with
          | none => rw [hb2] at h33; cases h33
          | some k =>
            rw [hb2] at h33
            have h33 := Option.some.inj h33
            subst h33
            exact q3 hz k hb2
      · rw [if_neg hz]
        exact ⟨fun _ => q1 hz, fun y => absurd rfl y⟩
    by_cases hz : s 9 e = 0
    · cases hb2 : b with
      | none =>
        subst hb2
        exact turn (some e) (Bu_none hb hz) (fun B G t ka σ u J K h hJ => cpre B G t ka σ u J K h (fun y => absurd hz y) (fun _ _ => hJ) (fun _ k hk => by cases hk))
      | some k =>
        subst hb2
        have hk : k < 4 := by have := (hb.1 k rfl).2.1; omega
        by_cases hbt : bet s w e k
        · refine turn (some e) (Bu_more hb hz ((bet_iff hW hw he hk).mp hbt)) (fun B G t ka σ u J K h hJ => cpre B G t ka σ u J K h (fun y => absurd hz y) (fun _ y => by cases y) (fun _ k' hk' => ?_))
          cases hk'
          exact c_bet hW hw he hk h (fun _ => ⟨fun y => absurd y (by decide), fun _ => hJ⟩) (fun y => absurd hbt y)
        · refine turn (some k) (Bu_less hb (fun y => hbt ((bet_iff hW hw he hk).mpr y))) (fun B G t ka σ u J K h hJ => cpre B G t ka σ u J K h (fun y => absurd hz y) (fun _ y => by cases y) (fun _ k' hk' => ?_))
          cases hk'
          exact c_bet hW hw he hk h (fun y => absurd y hbt) (fun _ => ⟨fun _ => hJ, fun y => absurd rfl y⟩)
    · exact turn b (Bu_busy hb hz) (fun B G t ka σ u J K h hJ => cpre B G t ka σ u J K h (fun _ => hJ) (fun y => absurd y hz) (fun y => absurd y hz))
/-- the law's choice -/
theorem lbest {w : Nat} (hW : Iw s n m) (hn8 : n ≤ 8) (hw : w < n) : ∀ (d : Nat) (b : Option Nat), d ≤ 4 → Bst s w d 4 b → ∃ b' : Option Nat, Bst s w 0 4 b' ∧
    (∀ (B : Nat → Nat → Nat) (G : Ctx) (t : Nat → Nat → Nat) (ka : List Nat) (σ z : Nat → Nat → Int32) (u : Mem) (K : Mem → Prop), S2 B G σ t ka z u → Rel s n m z → (b' = none → K u) → (∀ k, b' = some k → ∀ z' u', S2 B G σ t ka z' u' → Rel (up2 (up2 (up2 s 14 w (nI k)) 13 w 1) 9 k 1) n m z' → K u') → w_L_sends_8 G (nI w) (B 4 2) (B 4 3) K (d + 1) (bi b) (bm s w b) (nI d - 1) u) := by
  intro d
  have mone : ∀ k, k < 4 → ¬ (nI k < 0) := fun k hk => nI_pos (by omega)
  induction d with
  | zero =>
    intro b _ hb
    refine ⟨b, hb, fun B G t ka σ z u K h hR hN hY => ?_⟩
    rw [wS_L_sends_8]
    refine ⟨fun _ => ?_, fun y => absurd (by decide) y⟩
    cases b with
    | none => exact ⟨fun _ => hN rfl, fun y => absurd (by decide : (-1 : Int32) < 0) y⟩
    | some k =>
      have hk : k < 4 := (hb.1 k rfl).2.1
      refine ⟨fun y => absurd y (mone k hk), fun _ => ?_⟩
      refine wr h 2 (3 * k + 2) (by omega) (j32 k) (by show 3 * k + 2 < 12; omega) (fun u1 h1 => ?_)
      refine wr h1 3 (6 * w + 2) (by omega) (j62 w) (by show 6 * w + 2 < 48; omega) (fun u2 h2 => ?_)
      refine wr h2 3 (6 * w + 3) (by omega) (j63 w) (by show 6 * w + 3 < 48; omega) (fun u3 h3 => ?_)
      refine hY k rfl _ _ h3 (Rel_eq (R_14 (R_13 (R_9 hR hk (v := 1) (x := nI w) (.inr ⟨by decide, nI_pos (by omega)⟩)) hw 1) hw (nI k)) ?_ rfl)
      rw [up2_comm (up2 s 9 k 1) 1 (nI k) (.inl (by decide)), up3]
  | succ d ih =>
    intro b hd4 hb
    have hd : d < 4 := by omega
    have ed : nI (d + 1) - 1 = nI d := nI_pred d
    obtain ⟨a, f, ha, hf, z7, z11, d1, d2⟩ := dnv hW hw hd
    obtain ⟨r, hr, er, ek, _⟩ := kyv hW hw hd
    have turn : ∀ b1 : Option Nat, Bst s w d 4 b1 →
        (∀ (B : Nat → Nat → Nat) (G : Ctx) (t : Nat → Nat → Nat) (ka : List Nat) (σ z : Nat → Nat → Int32) (u : Mem) (J : Int32 → Int32 → Int32 → Mem → Prop) (K : Mem → Prop), S2 B G σ t ka z u → Rel s n m z → J (bi b1) (bm s w b1) (nI d + (-1)) u → b_L_sends_8 G (nI w) (B 4 2) (B 4 3) K J (bi b) (bm s w b) (nI d) u) →
        ∃ b' : Option Nat, Bst s w 0 4 b' ∧ (∀ (B : Nat → Nat → Nat) (G : Ctx) (t : Nat → Nat → Nat) (ka : List Nat) (σ z : Nat → Nat → Int32) (u : Mem) (K : Mem → Prop), S2 B G σ t ka z u → Rel s n m z → (b' = none → K u) → (∀ k, b' = some k → ∀ z' u', S2 B G σ t ka z' u' → Rel (up2 (up2 (up2 s 14 w (nI k)) 13 w 1) 9 k 1) n m z' → K u') → w_L_sends_8 G (nI w) (B 4 2) (B 4 3) K (d + 1 + 1) (bi b) (bm s w b) (nI (d + 1) - 1) u) := by
      intro b1 hb1 hL
      obtain ⟨b', p1, p3⟩ := ih b1 (by omega) hb1
      refine ⟨b', p1, fun B G t ka σ z u K h hR hN hY => ?_⟩
      rw [wS_L_sends_8, ed]
      refine hL B G t ka σ z u _ K h hR ?_
      rw [← Int32.sub_eq_add_neg]
      exact p3 B G t ka σ z u K h hR hN hY
    have lpre : ∀ (B : Nat → Nat → Nat) (G : Ctx) (t : Nat → Nat → Nat) (ka : List Nat) (σ z : Nat → Nat → Int32) (u : Mem) (J : Int32 → Int32 → Int32 → Mem → Prop) (K : Mem → Prop), S2 B G σ t ka z u → Rel s n m z → (¬ s 9 d = 0 → J (bi b) (bm s w b) (nI d + (-1)) u) → (s 9 d = 0 → nI (ky s w d) < bm s w b → J (bi b) (bm s w b) (nI d + (-1)) u) → (s 9 d = 0 → ¬ nI (ky s w d) < bm s w b → J (nI d) (nI (ky s w d)) (nI d + (-1)) u) → b_L_sends_8 G (nI w) (B 4 2) (B 4 3) K J (bi b) (bm s w b) (nI d) u := by
      intro B G t ka σ z u J K h hR q1 q2 q3
      obtain ⟨g0, g1, g2⟩ := hR.2.2.1 d hd
      obtain ⟨a1, a2, a3⟩ := rd h 2 (3 * d) (by omega) (j3 d) (by show 3 * d < 12; omega)
      obtain ⟨b1, b2, b3⟩ := rd h 3 (6 * w) (by omega) (j6 w) (by show 6 * w < 48; omega)
      obtain ⟨c1, c2, c3⟩ := rd h 2 (3 * d + 1) (by omega) (j31 d) (by show 3 * d + 1 < 12; omega)
      obtain ⟨e1, e2, e3⟩ := rd h 2 (3 * d + 2) (by omega) (j32 d) (by show 3 * d + 2 < 12; omega)
      rw [g0, z7] at a3
      rw [(hR.2.2.2.1 w hw).1, z11] at b3
      rw [g1, er] at c3
      refine ⟨fun y => absurd y (mone d hd), fun _ => ⟨a1, a2, b1, b2, ?_⟩⟩
      rw [a3, b3]
      refine l_way ha hf ⟨c1, c2, e1, e2, ?_⟩
      have ew : (1000 : Int32) * ((8 : Int32) - nI (dst a f)) + nI r = nI (ky s w d) := by
        rw [ek, d1, show (8 : Int32) - nI (dst a f) = nI (8 - dst a f) from pk_sub (a := 8) (by omega), show (1000 : Int32) * nI (8 - dst a f) = nI (1000 * (8 - dst a f)) from pk_mul 1000 _, nI_add]
      rw [c3, e3, ew]
      rcases g2 with ⟨y1, y2⟩ | ⟨y1, y2⟩
      · rw [y2]
        refine ⟨fun y => absurd y (by decide), fun _ => ⟨fun y => ?_, fun y => ?_⟩⟩
        · exact ⟨fun _ => ⟨fun _ => q2 y1 y, fun k => absurd rfl k⟩, fun k => absurd rfl k⟩
        · exact ⟨fun k => absurd k (by decide), fun _ => ⟨fun k => absurd k (by decide), fun _ => q3 y1 y⟩⟩
      · refine ⟨fun _ => ?_, fun y => absurd (Int32.not_lt.mp y2) y⟩
        exact ⟨fun _ => ⟨fun _ => q1 y1, fun k => absurd rfl k⟩, fun k => absurd rfl k⟩
    by_cases hz : s 9 d = 0
    · cases hb2 : b with
      | none =>
        subst hb2
        have hlt : ¬ nI (ky s w d) < bm s w none := fun y => absurd (Int32.lt_trans y (show bm s w none < 0 from (by decide : (-1 : Int32) < 0))) (nI_pos (by omega))
        exact turn (some d) (Bd_take hd hb hz (fun k hk => by cases hk)) (fun B G t ka σ z u J K h hR hJ => lpre B G t ka σ z u J K h hR (fun y => absurd hz y) (fun _ y => absurd y hlt) (fun _ _ => hJ))
      | some k =>
        subst hb2
        have hk : k < 4 := (hb.1 k rfl).2.1
        obtain ⟨r', hr', er', ek', ed'⟩ := kyv hW hw hk
        have hlt : nI (ky s w d) < bm s w (some k) ↔ ky s w d < ky s w k := nI_ltI (b := ky s w k) (by omega) (by omega)
        by_cases hl : ky s w d < ky s w k
        · exact turn (some k) (Bd_less hb hl) (fun B G t ka σ z u J K h hR hJ => lpre B G t ka σ z u J K h hR (fun y => absurd hz y) (fun _ _ => hJ) (fun _ y => absurd (hlt.mpr hl) y))
        · exact turn (some d) (Bd_take hd hb hz (fun k' hk' => by cases hk'; omega)) (fun B G t ka σ z u J K h hR hJ => lpre B G t ka σ z u J K h hR (fun y => absurd hz y) (fun _ y => absurd (hlt.mp y) hl) (fun _ _ => hJ))
    · exact turn b (Bd_busy hb hz) (fun B G t ka σ z u J K h hR hJ => lpre B G t ka σ z u J K h hR (fun _ => hJ) (fun y => absurd y hz) (fun y => absurd y hz))
theorem Bst_00 {w : Nat} : Bst s w 0 0 none := ⟨fun k hk => (by cases hk), fun _ j _ h2 => absurd h2 (Nat.not_lt_zero j)⟩
theorem Bst_44 {w : Nat} : Bst s w 4 4 none := ⟨fun k hk => (by cases hk), fun _ j h1 h2 => absurd h2 (by omega)⟩
theorem best1 {w : Nat} (hW : Iw s n m) (hn8 : n ≤ 8) (hw : w < n) : ∃ b' : Option Nat, Bst s w 0 4 b' ∧
    (∀ (B : Nat → Nat → Nat) (G : Ctx) (t : Nat → Nat → Nat) (ka : List Nat) (σ : Nat → Nat → Int32) (u : Mem) (K : Option Nat → Mem → Prop), S2 B G s t ka σ u → K (b'.map (B 3)) u → w_X5_bestFreeEscort G (B 0 0) (s 11 w) u K) ∧
    (∀ (B : Nat → Nat → Nat) (G : Ctx) (t : Nat → Nat → Nat) (ka : List Nat) (σ z : Nat → Nat → Int32) (u : Mem) (K : Mem → Prop), S2 B G σ t ka z u → Rel s n m z → (b' = none → K u) → (∀ k, b' = some k → ∀ z' u', S2 B G σ t ka z' u' → Rel (up2 (up2 (up2 s 14 w (nI k)) 13 w 1) 9 k 1) n m z' → K u') → w_L_sends G (nI w) (B 4 2) (B 4 3) u K) := by
  obtain ⟨b1, p1, p2⟩ := cbest hW hw 4 0 none (by omega) Bst_00
  obtain ⟨b2, q1, q2⟩ := lbest hW hn8 hw 4 none (by omega) Bst_44
  have e := Bst_uniq p1 q1
  subst e
  exact ⟨b1, p1, fun B G t ka σ u K h hK => ⟨5, p2 B G t ka σ u K h hK⟩, fun B G t ka σ z u K h hR hN hY => ⟨5, q2 B G t ka σ z u K h hR hN hY⟩⟩
end S2B
