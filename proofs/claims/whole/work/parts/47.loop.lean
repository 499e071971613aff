section S2P
variable {B : Nat → Nat → Nat} {G : Ctx} {s s2 : Nat → Nat → Int32} {t : Nat → Nat → Nat} {ka : List Nat} {u : Mem}
theorem lawloop {L : Nat} (hL : L ≤ 2048) (xs : Nat → Int32) : ∀ q i, i ≤ 2048 → L ≤ i + 4 * q + 3 → ∀ (s : Nat → Nat → Int32) (t : Nat → Nat → Nat) (ka : List Nat) (mc ms : Nat) (u : Mem), S2 B G s t ka s u → Iv s t ka → Pt q mc ms t → w_L_law_23 G L xs (q + 1) (B 0 0) (B 0 1) (B 0 2) (nI i) mc ms u := by
  have hc : ∀ i, i ≤ 2048 → ((nI L - (4 : Int32) < nI i) ↔ (L : Int) - 4 < i) := fun i hi => by
    have e : (nI L - (4 : Int32)).toInt = (L : Int) - (4 : Nat) := pk_sub_toInt (a := L) (b := 4) (by omega) (by omega)
    rw [Int32.lt_iff_toInt_lt, e, nI_toInt (by omega)]
    omega
  intro q
  induction q with
  | zero =>
    intro i hi hLi s t ka mc ms u h hI hP
    rw [wS_L_law_23]
    exact ⟨fun _ => trivial, fun z => absurd ((hc i hi).mpr (by omega)) z⟩
  | succ q ih =>
    intro i hi hLi s t ka mc ms u h hI hP
    rw [wS_L_law_23]
    refine ⟨fun _ => trivial, fun z => ?_⟩
    rw [hc i hi] at z
    have h4 : i + 4 ≤ L := by omega
    have a0 : vp_in (nI i) L := vp_in_nI (by omega) (by omega)
    have a1 : vp_in (nI i + (1 : Int32)) L := by rw [show nI i + (1 : Int32) = nI (i + 1) from nI_add i 1]; exact vp_in_nI (by omega) (by omega)
    have a2 : vp_in (nI i + (2 : Int32)) L := by rw [show nI i + (2 : Int32) = nI (i + 2) from nI_add i 2]; exact vp_in_nI (by omega) (by omega)
    have a3 : vp_in (nI i + (3 : Int32)) L := by rw [show nI i + (3 : Int32) = nI (i + 3) from nI_add i 3]; exact vp_in_nI (by omega) (by omega)
    have e4 : nI i + (4 : Int32) = nI (i + 4) := nI_add i 4
    have hJ : HJ B G q (w_L_law_23 G L xs (q + 1) (B 0 0) (B 0 1) (B 0 2) (nI i + 4)) := fun s t ka mc ms u h hI hP => by
      rw [e4]; exact ih (i + 4) (by omega) (by omega) s t ka mc ms u h hI hP
    refine ⟨a0, fun _ => ?_, fun _ => p_140 L xs _ a1 a2 h hI hP hJ, fun _ => p_208 L xs _ a1 a2 a3 h hI hP hJ, fun _ => p_304 L xs _ a1 a2 a3 h hI hP hJ, fun _ => p_384 L xs _ a1 a2 h hI hP hJ, fun _ => p_452 L xs _ a1 a2 h hI hP hJ, fun _ => p_520 L xs _ a1 h hI hP hJ, fun _ => p_576 L xs _ h hI hP hJ, fun _ => p_620 L xs _ a1 a2 h hI hP hJ, fun _ => p_704 L xs _ h hI hP hJ, fun _ => p_717 L xs _ h hI hP hJ, fun _ => p_730 L xs _ a1 h hI hP hJ, fun _ => p_786 L xs _ h hI hP hJ, fun _ => p_799 L xs _ a1 h hI hP hJ, fun _ => p_855 L xs _ a1 h hI hP hJ, fun _ => p_911 L xs _ a1 h hI hP hJ, fun _ => p_967 L xs _ a1 h hI hP hJ, fun _ => p_1023 L xs _ a1 h hI hP hJ, fun _ => p_1079 L xs _ a1 a2 h hI hP hJ, fun _ => p_1147 L xs _ h hI hP hJ, fun _ => p_1160 L xs _ a1 a2 a3 h hI hP hJ, fun _ => p_1247 L xs _ a1 a2 a3 h hI hP hJ, fun _ => p_1334 L xs _ h hI hP hJ⟩
    show w_L_law_23 G L xs (q + 1) (B 0 0) (B 0 1) (B 0 2) (nI i + 4) mc ms u
    exact hJ s t ka mc ms u h hI (Pt_1 hP).2.2.2
end S2P
