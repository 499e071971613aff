section S2F
variable {B : Nat → Nat → Nat} {G : Ctx} {s s2 : Nat → Nat → Int32} {t : Nat → Nat → Nat} {ka : List Nat} {u : Mem}
theorem nIc {i N : Nat} (h : i < N) (hN : N < 2 ^ 31) : (nI i).toNatClampNeg = i := nI_clamp (by omega)
theorem fd (h : S2 B G s t ka s2 u) : OB u (B 0 0) 6 ∧ mR u 192 (B 0 0) = some (B 0 3) ∧ mR u 193 (B 0 0) = some (B 0 4) ∧ mR u 194 (B 0 0) = some (B 0 5) ∧ mR u 195 (B 0 0) = some (B 0 6) ∧ mI u 196 (B 0 0) = s 1 0 ∧ mI u 197 (B 0 0) = s 2 0 ∧ OB u (B 0 3) 11 ∧ mN u (B 0 3) = 8 ∧ OB u (B 0 4) 12 ∧ mN u (B 0 4) = 4 ∧ OB u (B 0 6) 1 ∧ mR u 32 (B 0 6) = some (B 0 7) ∧ mR u 33 (B 0 6) = some (B 0 8) ∧ OB u (B 0 5) 0 ∧ OB u (B 0 7) 0 ∧ OB u (B 0 8) 0 ∧ mI u 2 (B 0 5) = nI (t 3 0) ∧ mI u 2 (B 0 7) = nI (t 3 1) ∧ mI u 2 (B 0 8) = nI ka.length ∧ OB u (B 0 0) 6 ∧ OB u (B 0 0) 6 := by
  obtain ⟨⟨d1, d2, d3, d4, d5, d6, d7, d8, d9, d10, d11, d12, d13, d14, d15, d16⟩, hs, he, hw, hp, h0, h1, h2, hm, ho, hx, hB⟩ := h
  exact ⟨d1, d2, d3, d4, d5, d6, d7, d8, d9, d11, d12, d14, d15, d16, h0.1, h1.1, h2.1, h0.2.2.1, h1.2.2.1, h2.2.2.1, ho.1, ho.2⟩
theorem fs (h : S2 B G s t ka s2 u) {i : Nat} (hi : i < 8) : mB u (B 0 3) i = some (B 1 i) ∧ OB u (B 1 i) 4 ∧ mI u 128 (B 1 i) = s 3 i ∧ mI u 129 (B 1 i) = s 4 i ∧ mI u 130 (B 1 i) = s 5 i ∧ mR u 131 (B 1 i) = some (B 2 i) ∧ OB u (B 2 i) 8 ∧ mN u (B 2 i) = 3 ∧ mA u (B 2 i) 0 = s 6 (3 * i) ∧ mA u (B 2 i) 1 = s 6 (3 * i + 1) ∧ mA u (B 2 i) 2 = s 6 (3 * i + 2) := by
  have hd := h.1
  obtain ⟨b1, b2, b3, b4, b5, b6, b7, b8⟩ := h.2.1 i hi
  exact ⟨hd.2.2.2.2.2.2.2.2.2.1 i hi, b1, b2, b3, b4, b5, b6, b7, b8 0 (by omega), b8 1 (by omega), b8 2 (by omega)⟩
theorem fe (h : S2 B G s t ka s2 u) {e : Nat} (he : e < 4) : mB u (B 0 4) e = some (B 3 e) ∧ OB u (B 3 e) 2 ∧ mI u 64 (B 3 e) = nI e ∧ mI u 65 (B 3 e) = s 7 e ∧ mI u 66 (B 3 e) = s 8 e ∧ mI u 67 (B 3 e) = (if s 9 e = 0 then 1 else 0) := by
  have hd := h.1
  exact ⟨hd.2.2.2.2.2.2.2.2.2.2.2.2.1 e he, h.2.2.1 e he⟩
theorem fw (h : S2 B G s t ka s2 u) {w : Nat} (hw : w < t 3 0) : OB u (t 0 w) 5 ∧ mI u 160 (t 0 w) = nI w ∧ mI u 161 (t 0 w) = s 11 w ∧ mI u 162 (t 0 w) = s 12 w ∧ mI u 163 (t 0 w) = s 13 w ∧ mR u 164 (t 0 w) = (if s 14 w = -1 then none else some (B 3 (s 14 w).toNatClampNeg)) ∧ mI u 165 (t 0 w) = s 15 w ∧ mI u 166 (t 0 w) = s 16 w := h.2.2.2.1 w hw
theorem fp (h : S2 B G s t ka s2 u) {i : Nat} (hi : i < t 3 1) : OB u (t 1 i) 3 ∧ mI u 96 (t 1 i) = s 18 i ∧ mI u 97 (t 1 i) = s 19 i ∧ mI u 98 (t 1 i) = s 20 i ∧ mI u 99 (t 1 i) = s 21 i := h.2.2.2.2.1 i hi
theorem fa (h : S2 B G s t ka s2 u) {k i : Nat} (hk : ak k) (hi : i < lnm k) : mA u (B 4 k) i = s2 k i := (h.2.2.2.2.2.2.2.2.1 k hk).2.2 i hi
theorem rg8 {i : Nat} (hi : i < 8) : ¬ (nI i < 0) ∧ ¬ (nI 8 ≤ nI i) ∧ ¬ ((8 : Int32) ≤ nI i) ∧ ¬ ((7 : Int32) < nI i) ∧ nI i < nI 8 ∧ nI i < 8 ∧ (nI i).toNatClampNeg = i ∧ vp_in (nI i) 8 := by
  have h1 : ((8 : Int32)) = nI 8 := rfl
  have h2 : ((7 : Int32)) = nI 7 := rfl
  refine ⟨nI_pos (by omega), ?_, ?_, ?_, ?_, ?_, nI_clamp (by omega), vp_in_nI hi (by decide)⟩
  · rw [nI_leI (by omega) (by omega)]; omega
  · rw [h1, nI_leI (by omega) (by omega)]; omega
  · rw [h2, nI_ltI (by omega) (by omega)]; omega
  · rw [nI_ltI (by omega) (by omega)]; omega
  · rw [h1, nI_ltI (by omega) (by omega)]; omega
theorem rg4 {i : Nat} (hi : i < 4) : ¬ (nI i < 0) ∧ ¬ (nI 4 ≤ nI i) ∧ ¬ ((4 : Int32) ≤ nI i) ∧ ¬ ((3 : Int32) < nI i) ∧ nI i < nI 4 ∧ nI i < 4 ∧ (nI i).toNatClampNeg = i ∧ vp_in (nI i) 4 := by
  have h1 : ((4 : Int32)) = nI 4 := rfl
  have h2 : ((3 : Int32)) = nI 3 := rfl
  refine ⟨nI_pos (by omega), ?_, ?_, ?_, ?_, ?_, nI_clamp (by omega), vp_in_nI hi (by decide)⟩
  · rw [nI_leI (by omega) (by omega)]; omega
  · rw [h1, nI_leI (by omega) (by omega)]; omega
  · rw [h2, nI_ltI (by omega) (by omega)]; omega
  · rw [nI_ltI (by omega) (by omega)]; omega
  · rw [h1, nI_ltI (by omega) (by omega)]; omega
theorem rg3 {i : Nat} (hi : i < 3) : ¬ (nI i < 0) ∧ ¬ (nI 3 ≤ nI i) ∧ ¬ ((3 : Int32) ≤ nI i) ∧ ¬ ((2 : Int32) < nI i) ∧ nI i < nI 3 ∧ nI i < 3 ∧ (nI i).toNatClampNeg = i ∧ vp_in (nI i) 3 := by
  have h1 : ((3 : Int32)) = nI 3 := rfl
  have h2 : ((2 : Int32)) = nI 2 := rfl
  refine ⟨nI_pos (by omega), ?_, ?_, ?_, ?_, ?_, nI_clamp (by omega), vp_in_nI hi (by decide)⟩
  · rw [nI_leI (by omega) (by omega)]; omega
  · rw [h1, nI_leI (by omega) (by omega)]; omega
  · rw [h2, nI_ltI (by omega) (by omega)]; omega
  · rw [nI_ltI (by omega) (by omega)]; omega
  · rw [h1, nI_ltI (by omega) (by omega)]; omega
theorem og {x : Int32} {n : Nat} (hn : 0 < n) (hn2 : n < 2 ^ 31) (h : nI n ≤ x) : ¬ (x < 0) ∧ nI n ≤ x ∧ ¬ (x < nI n) ∧ nI (n - 1) < x := by
  have e1 : (nI n).toInt = n := nI_toInt hn2
  have e2 : (nI (n - 1)).toInt = (n - 1 : Nat) := nI_toInt (by omega)
  rw [Int32.le_iff_toInt_le] at h
  refine ⟨?_, ?_, ?_, ?_⟩
  · rw [Int32.lt_iff_toInt_lt, Int32.toInt_zero]; omega
  · rw [Int32.le_iff_toInt_le]; omega
  · rw [Int32.lt_iff_toInt_lt]; omega
  · rw [Int32.lt_iff_toInt_lt]; omega
end S2F
