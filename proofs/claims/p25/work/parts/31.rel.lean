section S2R
variable {B : Nat → Nat → Nat} {G : Ctx} {s z : Nat → Nat → Int32} {t : Nat → Nat → Nat} {ka : List Nat} {u : Mem} {n m : Nat}
theorem lnm_le (k : Nat) : lnm k ≤ 48 := by unfold lnm; (repeat' split) <;> omega
/-- the law's rows: 0 the day, the minute and the counts; 1 streets; 2 escorts; 3 walks; 4 papers; 5 their last days -/
theorem rd (h : S2 B G s t ka z u) (k i : Nat) {x : Int32} (hk : k < 6) (hx : x = nI i) (hi : i < lnm k) : OB u (B 4 k) 8 ∧ vp_in x (mN u (B 4 k)) ∧ mA u (B 4 k) x.toNatClampNeg = z k i := by
  have hm := h.2.2.2.2.2.2.2.2.1 k hk
  have hl := lnm_le k
  subst hx
  refine ⟨hm.1, ?_, ?_⟩
  · rw [hm.2.1]; exact vp_in_nI hi (by omega)
  · rw [nI_clamp (by omega)]; exact hm.2.2 i hi
theorem wr (h : S2 B G s t ka z u) (k i : Nat) {x v : Int32} (hk : k < 6) (hx : x = nI i) (hi : i < lnm k) {P : Mem → Prop} (hP : ∀ u', S2 B G s t ka (up2 z k i v) u' → P u') : OB u (B 4 k) 8 ∧ vp_in x (mN u (B 4 k)) ∧ (∀ u' : Mem, u' = setA u (B 4 k) x.toNatClampNeg v → P u') := by
  obtain ⟨a1, a2, _⟩ := rd h k i hk hx hi
  have hl := lnm_le k
  refine ⟨a1, a2, fun u' hu => ?_⟩
  rw [hx, nI_clamp (by omega)] at hu
  rw [hu]
  exact hP _ (S_mrow h (k0 := k) hk hi v)
theorem j6 (k : Nat) : (6 : Int32) * nI k = nI (6 * k) := pk_mul 6 k
theorem j6a (k j : Nat) : (6 : Int32) * nI k + nI j = nI (6 * k + j) := by rw [j6, nI_add]
theorem j61 (k : Nat) : (6 : Int32) * nI k + 1 = nI (6 * k + 1) := j6a k 1
theorem j62 (k : Nat) : (6 : Int32) * nI k + 2 = nI (6 * k + 2) := j6a k 2
theorem j63 (k : Nat) : (6 : Int32) * nI k + 3 = nI (6 * k + 3) := j6a k 3
theorem j64 (k : Nat) : (6 : Int32) * nI k + 4 = nI (6 * k + 4) := j6a k 4
theorem j65 (k : Nat) : (6 : Int32) * nI k + 5 = nI (6 * k + 5) := j6a k 5
theorem j3 (k : Nat) : (3 : Int32) * nI k = nI (3 * k) := pk_mul 3 k
theorem j31 (k : Nat) : (3 : Int32) * nI k + 1 = nI (3 * k + 1) := by rw [j3]; exact nI_1 _
theorem j32 (k : Nat) : (3 : Int32) * nI k + 2 = nI (3 * k + 2) := by rw [j3]; exact nI_add _ 2
theorem up2_id {k i : Nat} {v : Int32} (h : z k i = v) : up2 z k i v = z := by
  funext a b
  rw [up2_at]
  split
  · rename_i e; rw [e.1, e.2, h]
  · rfl
/-- the law's rows z tell the class' numbers s, with n walks and m papers -/
def Rel (s : Nat → Nat → Int32) (n m : Nat) (z : Nat → Nat → Int32) : Prop :=
  (z 0 0 = s 1 0 ∧ z 0 1 = s 2 0 ∧ z 0 2 = nI n ∧ z 0 3 = nI m) ∧
  (∀ k, k < 8 → z 1 (6 * k) = s 3 k ∧ z 1 (6 * k + 1) = s 4 k ∧ z 1 (6 * k + 2) = s 5 k ∧ z 1 (6 * k + 3) = s 6 (3 * k) ∧ z 1 (6 * k + 4) = s 6 (3 * k + 1) ∧ z 1 (6 * k + 5) = s 6 (3 * k + 2)) ∧
  (∀ e, e < 4 → z 2 (3 * e) = s 7 e ∧ z 2 (3 * e + 1) = s 8 e ∧ ((s 9 e = 0 ∧ z 2 (3 * e + 2) = -1) ∨ (¬ s 9 e = 0 ∧ ¬ z 2 (3 * e + 2) < 0))) ∧
  (∀ w, w < n → z 3 (6 * w) = s 11 w ∧ z 3 (6 * w + 1) = s 12 w ∧ z 3 (6 * w + 2) = s 13 w ∧ z 3 (6 * w + 3) = s 14 w ∧ z 3 (6 * w + 4) = s 15 w ∧ z 3 (6 * w + 5) = s 16 w) ∧
  (∀ w, n ≤ w → w < 8 → z 3 (6 * w + 2) = 0 ∧ z 3 (6 * w + 4) = 0 ∧ z 3 (6 * w + 5) = 0) ∧
  (∀ j, j < m → z 4 j = s 18 j + (8 : Int32) * s 19 j + (64 : Int32) * s 20 j ∧ z 5 j = s 21 j)
theorem R_3 (h : Rel s n m z) {i : Nat} (hi : i < 8) (v : Int32) : Rel (up2 s 3 i v) n m (up2 z 1 (6 * i) v) := by
  obtain ⟨⟨q0, q1, q2, q3⟩, hS, hE, hW, hF, hP⟩ := h
  refine ⟨⟨q0, q1, q2, q3⟩, fun k hk => ?_, hE, hW, hF, hP⟩
  obtain ⟨a0, a1, a2, a3, a4, a5⟩ := hS k hk
  refine ⟨?_, ?_, ?_, ?_, ?_, ?_⟩
  · (rw [up2_at, up2_at]; split <;> split <;> first | rfl | (exfalso; omega) | exact a0)
  · (rw [up2_at, up2_at]; split <;> split <;> first | rfl | (exfalso; omega) | exact a1)
  · (rw [up2_at, up2_at]; split <;> split <;> first | rfl | (exfalso; omega) | exact a2)
  · (rw [up2_at, up2_at]; split <;> split <;> first | rfl | (exfalso; omega) | exact a3)
  · (rw [up2_at, up2_at]; split <;> split <;> first | rfl | (exfalso; omega) | exact a4)
  · (rw [up2_at, up2_at]; split <;> split <;> first | rfl | (exfalso; omega) | exact a5)
theorem R_4 (h : Rel s n m z) {i : Nat} (hi : i < 8) (v : Int32) : Rel (up2 s 4 i v) n m (up2 z 1 (6 * i + 1) v) := by
  obtain ⟨⟨q0, q1, q2, q3⟩, hS, hE, hW, hF, hP⟩ := h
  refine ⟨⟨q0, q1, q2, q3⟩, fun k hk => ?_, hE, hW, hF, hP⟩
  obtain ⟨a0, a1, a2, a3, a4, a5⟩ := hS k hk
  refine ⟨?_, ?_, ?_, ?_, ?_, ?_⟩
  · (rw [up2_at, up2_at]; split <;> split <;> first | rfl | (exfalso; omega) | exact a0)
  · (rw [up2_at, up2_at]; split <;> split <;> first | rfl | (exfalso; omega) | exact a1)
  · (rw [up2_at, up2_at]; split <;> split <;> first | rfl | (exfalso; omega) | exact a2)
  · (rw [up2_at, up2_at]; split <;> split <;> first | rfl | (exfalso; omega) | exact a3)
  · (rw [up2_at, up2_at]; split <;> split <;> first | rfl | (exfalso; omega) | exact a4)
  · (rw [up2_at, up2_at]; split <;> split <;> first | rfl | (exfalso; omega) | exact a5)
theorem R_5 (h : Rel s n m z) {i : Nat} (hi : i < 8) (v : Int32) : Rel (up2 s 5 i v) n m (up2 z 1 (6 * i + 2) v) := by
  obtain ⟨⟨q0, q1, q2, q3⟩, hS, hE, hW, hF, hP⟩ := h
  refine ⟨⟨q0, q1, q2, q3⟩, fun k hk => ?_, hE, hW, hF, hP⟩
  obtain ⟨a0, a1, a2, a3, a4, a5⟩ := hS k hk
  refine ⟨?_, ?_, ?_, ?_, ?_, ?_⟩
  · (rw [up2_at, up2_at]; split <;> split <;> first | rfl | (exfalso; omega) | exact a0)
  · (rw [up2_at, up2_at]; split <;> split <;> first | rfl | (exfalso; omega) | exact a1)
  · (rw [up2_at, up2_at]; split <;> split <;> first | rfl | (exfalso; omega) | exact a2)
  · (rw [up2_at, up2_at]; split <;> split <;> first | rfl | (exfalso; omega) | exact a3)
  · (rw [up2_at, up2_at]; split <;> split <;> first | rfl | (exfalso; omega) | exact a4)
  · (rw [up2_at, up2_at]; split <;> split <;> first | rfl | (exfalso; omega) | exact a5)
theorem R_6 (h : Rel s n m z) {i j : Nat} (hi : i < 8) (hj : j < 3) (v : Int32) : Rel (up2 s 6 (3 * i + j) v) n m (up2 z 1 (6 * i + 3 + j) v) := by
  obtain ⟨⟨q0, q1, q2, q3⟩, hS, hE, hW, hF, hP⟩ := h
  refine ⟨⟨q0, q1, q2, q3⟩, fun k hk => ?_, hE, hW, hF, hP⟩
  obtain ⟨a0, a1, a2, a3, a4, a5⟩ := hS k hk
  refine ⟨?_, ?_, ?_, ?_, ?_, ?_⟩
  · (rw [up2_at, up2_at]; split <;> split <;> first | rfl | (exfalso; omega) | exact a0)
  · (rw [up2_at, up2_at]; split <;> split <;> first | rfl | (exfalso; omega) | exact a1)
  · (rw [up2_at, up2_at]; split <;> split <;> first | rfl | (exfalso; omega) | exact a2)
  · (rw [up2_at, up2_at]; split <;> split <;> first | rfl | (exfalso; omega) | exact a3)
  · (rw [up2_at, up2_at]; split <;> split <;> first | rfl | (exfalso; omega) | exact a4)
  · (rw [up2_at, up2_at]; split <;> split <;> first | rfl | (exfalso; omega) | exact a5)
theorem R_7 (h : Rel s n m z) {i : Nat} (hi : i < 4) (v : Int32) : Rel (up2 s 7 i v) n m (up2 z 2 (3 * i) v) := by
  obtain ⟨⟨q0, q1, q2, q3⟩, hS, hE, hW, hF, hP⟩ := h
  refine ⟨⟨q0, q1, q2, q3⟩, hS, fun k hk => ?_, hW, hF, hP⟩
  obtain ⟨a0, a1, a2⟩ := hE k hk
  refine ⟨?_, ?_, ?_⟩
  · (rw [up2_at, up2_at]; split <;> split <;> first | rfl | (exfalso; omega) | exact a0)
  · (rw [up2_at, up2_at]; split <;> split <;> first | rfl | (exfalso; omega) | exact a1)
  · have e1 : up2 s 7 i v 9 k = s 9 k := rfl
    have e2 : up2 z 2 (3 * i) v 2 (3 * k + 2) = z 2 (3 * k + 2) := by rw [up2_at, if_neg (by omega)]
    rw [e1, e2]; exact a2
theorem R_8 (h : Rel s n m z) {i : Nat} (hi : i < 4) (v : Int32) : Rel (up2 s 8 i v) n m (up2 z 2 (3 * i + 1) v) := by
  obtain ⟨⟨q0, q1, q2, q3⟩, hS, hE, hW, hF, hP⟩ := h
  refine ⟨⟨q0, q1, q2, q3⟩, hS, fun k hk => ?_, hW, hF, hP⟩
  obtain ⟨a0, a1, a2⟩ := hE k hk
  refine ⟨?_, ?_, ?_⟩
  · (rw [up2_at, up2_at]; split <;> split <;> first | rfl | (exfalso; omega) | exact a0)
  · (rw [up2_at, up2_at]; split <;> split <;> first | rfl | (exfalso; omega) | exact a1)
  · have e1 : up2 s 8 i v 9 k = s 9 k := rfl
    have e2 : up2 z 2 (3 * i + 1) v 2 (3 * k + 2) = z 2 (3 * k + 2) := by rw [up2_at, if_neg (by omega)]
    rw [e1, e2]; exact a2
theorem R_9 (h : Rel s n m z) {i : Nat} (hi : i < 4) {v x : Int32} (hv : (v = 0 ∧ x = -1) ∨ (¬ v = 0 ∧ ¬ x < 0)) : Rel (up2 s 9 i v) n m (up2 z 2 (3 * i + 2) x) := by
  obtain ⟨⟨q0, q1, q2, q3⟩, hS, hE, hW, hF, hP⟩ := h
  refine ⟨⟨q0, q1, q2, q3⟩, hS, fun k hk => ?_, hW, hF, hP⟩
  obtain ⟨a0, a1, a2⟩ := hE k hk
  refine ⟨?_, ?_, ?_⟩
  · rw [up2_at, if_neg (by omega)]; exact a0
  · rw [up2_at, if_neg (by omega)]; exact a1
  · by_cases e : k = i
    · subst e
      rw [up2_at, if_pos ⟨rfl, rfl⟩, up2_at, if_pos ⟨rfl, rfl⟩]; exact hv
    · rw [up2_at, if_neg (by omega), up2_at, if_neg (by omega)]; exact a2
theorem R_13 (h : Rel s n m z) {i : Nat} (hi : i < n) (v : Int32) : Rel (up2 s 13 i v) n m (up2 z 3 (6 * i + 2) v) := by
  obtain ⟨⟨q0, q1, q2, q3⟩, hS, hE, hW, hF, hP⟩ := h
  refine ⟨⟨q0, q1, q2, q3⟩, hS, hE, fun k hk => ?_, fun k hk hk8 => ?_, hP⟩
  · obtain ⟨a0, a1, a2, a3, a4, a5⟩ := hW k hk
    refine ⟨?_, ?_, ?_, ?_, ?_, ?_⟩
    · (rw [up2_at, up2_at]; split <;> split <;> first | rfl | (exfalso; omega) | exact a0)
    · (rw [up2_at, up2_at]; split <;> split <;> first | rfl | (exfalso; omega) | exact a1)
    · (rw [up2_at, up2_at]; split <;> split <;> first | rfl | (exfalso; omega) | exact a2)
    · (rw [up2_at, up2_at]; split <;> split <;> first | rfl | (exfalso; omega) | exact a3)
    · (rw [up2_at, up2_at]; split <;> split <;> first | rfl | (exfalso; omega) | exact a4)
    · (rw [up2_at, up2_at]; split <;> split <;> first | rfl | (exfalso; omega) | exact a5)
  · obtain ⟨a0, a1, a2⟩ := hF k hk hk8
    exact ⟨by rw [up2_at, if_neg (by omega)]; exact a0, by rw [up2_at, if_neg (by omega)]; exact a1, by rw [up2_at, if_neg (by omega)]; exact a2⟩
theorem R_14 (h : Rel s n m z) {i : Nat} (hi : i < n) (v : Int32) : Rel (up2 s 14 i v) n m (up2 z 3 (6 * i + 3) v) := by
  obtain ⟨⟨q0, q1, q2, q3⟩, hS, hE, hW, hF, hP⟩ := h
  refine ⟨⟨q0, q1, q2, q3⟩, hS, hE, fun k hk => ?_, fun k hk hk8 => ?_, hP⟩
  · obtain ⟨a0, a1, a2, a3, a4, a5⟩ := hW k hk
    refine ⟨?_, ?_, ?_, ?_, ?_, ?_⟩
    · (rw [up2_at, up2_at]; split <;> split <;> first | rfl | (exfalso; omega) | exact a0)
    · (rw [up2_at, up2_at]; split <;> split <;> first | rfl | (exfalso; omega) | exact a1)
    · (rw [up2_at, up2_at]; split <;> split <;> first | rfl | (exfalso; omega) | exact a2)
    · (rw [up2_at, up2_at]; split <;> split <;> first | rfl | (exfalso; omega) | exact a3)
    · (rw [up2_at, up2_at]; split <;> split <;> first | rfl | (exfalso; omega) | exact a4)
    · (rw [up2_at, up2_at]; split <;> split <;> first | rfl | (exfalso; omega) | exact a5)
  · obtain ⟨a0, a1, a2⟩ := hF k hk hk8
    exact ⟨by rw [up2_at, if_neg (by omega)]; exact a0, by rw [up2_at, if_neg (by omega)]; exact a1, by rw [up2_at, if_neg (by omega)]; exact a2⟩
theorem R_15 (h : Rel s n m z) {i : Nat} (hi : i < n) (v : Int32) : Rel (up2 s 15 i v) n m (up2 z 3 (6 * i + 4) v) := by
  obtain ⟨⟨q0, q1, q2, q3⟩, hS, hE, hW, hF, hP⟩ := h
  refine ⟨⟨q0, q1, q2, q3⟩, hS, hE, fun k hk => ?_, fun k hk hk8 => ?_, hP⟩
  · obtain ⟨a0, a1, a2, a3, a4, a5⟩ := hW k hk
    refine ⟨?_, ?_, ?_, ?_, ?_, ?_⟩
    · (rw [up2_at, up2_at]; split <;> split <;> first | rfl | (exfalso; omega) | exact a0)
    · (rw [up2_at, up2_at]; split <;> split <;> first | rfl | (exfalso; omega) | exact a1)
    · (rw [up2_at, up2_at]; split <;> split <;> first | rfl | (exfalso; omega) | exact a2)
    · (rw [up2_at, up2_at]; split <;> split <;> first | rfl | (exfalso; omega) | exact a3)
    · (rw [up2_at, up2_at]; split <;> split <;> first | rfl | (exfalso; omega) | exact a4)
    · (rw [up2_at, up2_at]; split <;> split <;> first | rfl | (exfalso; omega) | exact a5)
  · obtain ⟨a0, a1, a2⟩ := hF k hk hk8
    exact ⟨by rw [up2_at, if_neg (by omega)]; exact a0, by rw [up2_at, if_neg (by omega)]; exact a1, by rw [up2_at, if_neg (by omega)]; exact a2⟩
theorem R_16 (h : Rel s n m z) {i : Nat} (hi : i < n) (v : Int32) : Rel (up2 s 16 i v) n m (up2 z 3 (6 * i + 5) v) := by
  obtain ⟨⟨q0, q1, q2, q3⟩, hS, hE, hW, hF, hP⟩ := h
  refine ⟨⟨q0, q1, q2, q3⟩, hS, hE, fun k hk => ?_, fun k hk hk8 => ?_, hP⟩
  · obtain ⟨a0, a1, a2, a3, a4, a5⟩ := hW k hk
    refine ⟨?_, ?_, ?_, ?_, ?_, ?_⟩
    · (rw [up2_at, up2_at]; split <;> split <;> first | rfl | (exfalso; omega) | exact a0)
    · (rw [up2_at, up2_at]; split <;> split <;> first | rfl | (exfalso; omega) | exact a1)
    · (rw [up2_at, up2_at]; split <;> split <;> first | rfl | (exfalso; omega) | exact a2)
    · (rw [up2_at, up2_at]; split <;> split <;> first | rfl | (exfalso; omega) | exact a3)
    · (rw [up2_at, up2_at]; split <;> split <;> first | rfl | (exfalso; omega) | exact a4)
    · (rw [up2_at, up2_at]; split <;> split <;> first | rfl | (exfalso; omega) | exact a5)
  · obtain ⟨a0, a1, a2⟩ := hF k hk hk8
    exact ⟨by rw [up2_at, if_neg (by omega)]; exact a0, by rw [up2_at, if_neg (by omega)]; exact a1, by rw [up2_at, if_neg (by omega)]; exact a2⟩
theorem R_1 (h : Rel s n m z) (v : Int32) : Rel (up2 s 1 0 v) n m (up2 z 0 0 v) := by
  obtain ⟨⟨q0, q1, q2, q3⟩, hS, hE, hW, hF, hP⟩ := h
  exact ⟨⟨rfl, q1, q2, q3⟩, hS, hE, hW, hF, hP⟩
theorem R_2 (h : Rel s n m z) (v : Int32) : Rel (up2 s 2 0 v) n m (up2 z 0 1 v) := by
  obtain ⟨⟨q0, q1, q2, q3⟩, hS, hE, hW, hF, hP⟩ := h
  exact ⟨⟨q0, rfl, q2, q3⟩, hS, hE, hW, hF, hP⟩
theorem R_ask (h : Rel s n m z) (hn : n < 8) (e13 : s 13 n = 0) (e15 : s 15 n = 0) (e16 : s 16 n = 0) (f d : Int32) : Rel (s_ask s n f d) (n + 1) m (up2 (up2 (up2 (up2 z 3 (6 * n) f) 3 (6 * n + 1) d) 3 (6 * n + 3) (-1)) 0 2 (nI (n + 1))) := by
  obtain ⟨⟨q0, q1, q2, q3⟩, hS, hE, hW, hF, hP⟩ := h
  refine ⟨⟨q0, q1, rfl, q3⟩, hS, hE, fun k hk => ?_, fun k hk hk8 => ?_, hP⟩
  · by_cases e : k = n
    · subst e
      obtain ⟨a0, a1, a2⟩ := hF k (Nat.le_refl _) hn
      refine ⟨?_, ?_, ?_, ?_, ?_, ?_⟩ <;> simp [s_ask, up2_at, a0, a1, a2, e13, e15, e16]
    · obtain ⟨a0, a1, a2, a3, a4, a5⟩ := hW k (by omega)
      have g : ∀ j, j < 6 → up2 (up2 (up2 (up2 z 3 (6 * n) f) 3 (6 * n + 1) d) 3 (6 * n + 3) (-1)) 0 2 (nI (n + 1)) 3 (6 * k + j) = z 3 (6 * k + j) := fun j hj => by
        rw [up2_at, if_neg (by omega), up2_at, if_neg (by omega), up2_at, if_neg (by omega), up2_at, if_neg (by omega)]
      have g0 := g 0 (by omega)
      have e' : ∀ r, (r = 11 ∨ r = 12 ∨ r = 13 ∨ r = 14 ∨ r = 15 ∨ r = 16) → s_ask s n f d r k = s r k := fun r hr => by
        unfold s_ask
        rw [up2_at, if_neg (by omega), up2_at, if_neg (by omega), up2_at, if_neg (by omega), up2_at, if_neg (by omega)]
      rw [e' 11 (by omega), e' 12 (by omega), e' 13 (by omega), e' 14 (by omega), e' 15 (by omega), e' 16 (by omega), g 1 (by omega), g 2 (by omega), g 3 (by omega), g 4 (by omega), g 5 (by omega)]
      exact ⟨g0.trans a0, a1, a2, a3, a4, a5⟩
  · obtain ⟨a0, a1, a2⟩ := hF k (by omega) hk8
    have g : ∀ j, (j = 2 ∨ j = 4 ∨ j = 5) → up2 (up2 (up2 (up2 z 3 (6 * n) f) 3 (6 * n + 1) d) 3 (6 * n + 3) (-1)) 0 2 (nI (n + 1)) 3 (6 * k + j) = z 3 (6 * k + j) := fun j hj => by
      rw [up2_at, if_neg (by omega), up2_at, if_neg (by omega), up2_at, if_neg (by omega), up2_at, if_neg (by omega)]
    rw [g 2 (by omega), g 4 (by omega), g 5 (by omega)]
    exact ⟨a0, a1, a2⟩
theorem R_pic (h : Rel s n m z) (a b c d : Int32) : Rel (s_pic s m a b c d) n (m + 1) (up2 (up2 (up2 z 4 m (a + (8 : Int32) * b + (64 : Int32) * c)) 5 m d) 0 3 (nI (m + 1))) := by
  obtain ⟨⟨q0, q1, q2, q3⟩, hS, hE, hW, hF, hP⟩ := h
  refine ⟨⟨q0, q1, q2, rfl⟩, hS, hE, hW, hF, fun j hj => ?_⟩
  by_cases e : j = m
  · subst e
    exact ⟨by simp [s_pic, up2_at], by simp [s_pic, up2_at]⟩
  · obtain ⟨a0, a1⟩ := hP j (by omega)
    exact ⟨by simpa [s_pic, up2_at, e] using a0, by simpa [s_pic, up2_at, e] using a1⟩
theorem Rel_eq {s' z' : Nat → Nat → Int32} (h : Rel s n m z) (e : s = s') (e2 : z = z') : Rel s' n m z' := by subst e; subst e2; exact h
end S2R
