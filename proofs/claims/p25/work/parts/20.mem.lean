theorem gL_setI (u : Mem) (f a : Nat) (v : Int32)  : mL (setI u f a v)  = mL u  := rfl
theorem gK_setI (u : Mem) (f a : Nat) (v : Int32) (b : Nat) : mK (setI u f a v) b = mK u b := rfl
theorem gI_setI (u : Mem) (f a : Nat) (v : Int32) (g b : Nat) : mI (setI u f a v) g b = if g = f ∧ b = a then v else mI u g b := rfl
theorem gR_setI (u : Mem) (f a : Nat) (v : Int32) (g b : Nat) : mR (setI u f a v) g b = mR u g b := rfl
theorem gN_setI (u : Mem) (f a : Nat) (v : Int32) (b : Nat) : mN (setI u f a v) b = mN u b := rfl
theorem gA_setI (u : Mem) (f a : Nat) (v : Int32) (b j : Nat) : mA (setI u f a v) b j = mA u b j := rfl
theorem gB_setI (u : Mem) (f a : Nat) (v : Int32) (b j : Nat) : mB (setI u f a v) b j = mB u b j := rfl
theorem gJ_setI (u : Mem) (f a : Nat) (v : Int32) (b j : Nat) : mJ (setI u f a v) b j = mJ u b j := rfl
theorem gO_setI (u : Mem) (f a : Nat) (v : Int32) (b k : Nat) : OB (setI u f a v) b k = OB u b k := rfl
theorem gL_setR (u : Mem) (f a : Nat) (v : Option Nat)  : mL (setR u f a v)  = mL u  := rfl
theorem gK_setR (u : Mem) (f a : Nat) (v : Option Nat) (b : Nat) : mK (setR u f a v) b = mK u b := rfl
theorem gI_setR (u : Mem) (f a : Nat) (v : Option Nat) (g b : Nat) : mI (setR u f a v) g b = mI u g b := rfl
theorem gR_setR (u : Mem) (f a : Nat) (v : Option Nat) (g b : Nat) : mR (setR u f a v) g b = if g = f ∧ b = a then v else mR u g b := rfl
theorem gN_setR (u : Mem) (f a : Nat) (v : Option Nat) (b : Nat) : mN (setR u f a v) b = mN u b := rfl
theorem gA_setR (u : Mem) (f a : Nat) (v : Option Nat) (b j : Nat) : mA (setR u f a v) b j = mA u b j := rfl
theorem gB_setR (u : Mem) (f a : Nat) (v : Option Nat) (b j : Nat) : mB (setR u f a v) b j = mB u b j := rfl
theorem gJ_setR (u : Mem) (f a : Nat) (v : Option Nat) (b j : Nat) : mJ (setR u f a v) b j = mJ u b j := rfl
theorem gO_setR (u : Mem) (f a : Nat) (v : Option Nat) (b k : Nat) : OB (setR u f a v) b k = OB u b k := rfl
theorem gL_setA (u : Mem) (a i : Nat) (v : Int32)  : mL (setA u a i v)  = mL u  := rfl
theorem gK_setA (u : Mem) (a i : Nat) (v : Int32) (b : Nat) : mK (setA u a i v) b = mK u b := rfl
theorem gI_setA (u : Mem) (a i : Nat) (v : Int32) (g b : Nat) : mI (setA u a i v) g b = mI u g b := rfl
theorem gR_setA (u : Mem) (a i : Nat) (v : Int32) (g b : Nat) : mR (setA u a i v) g b = mR u g b := rfl
theorem gN_setA (u : Mem) (a i : Nat) (v : Int32) (b : Nat) : mN (setA u a i v) b = mN u b := rfl
theorem gA_setA (u : Mem) (a i : Nat) (v : Int32) (b j : Nat) : mA (setA u a i v) b j = if b = a ∧ j = i then v else mA u b j := rfl
theorem gB_setA (u : Mem) (a i : Nat) (v : Int32) (b j : Nat) : mB (setA u a i v) b j = mB u b j := rfl
theorem gJ_setA (u : Mem) (a i : Nat) (v : Int32) (b j : Nat) : mJ (setA u a i v) b j = mJ u b j := rfl
theorem gO_setA (u : Mem) (a i : Nat) (v : Int32) (b k : Nat) : OB (setA u a i v) b k = OB u b k := rfl
theorem gL_setB (u : Mem) (a i : Nat) (v : Option Nat)  : mL (setB u a i v)  = mL u  := rfl
theorem gK_setB (u : Mem) (a i : Nat) (v : Option Nat) (b : Nat) : mK (setB u a i v) b = mK u b := rfl
theorem gI_setB (u : Mem) (a i : Nat) (v : Option Nat) (g b : Nat) : mI (setB u a i v) g b = mI u g b := rfl
theorem gR_setB (u : Mem) (a i : Nat) (v : Option Nat) (g b : Nat) : mR (setB u a i v) g b = mR u g b := rfl
theorem gN_setB (u : Mem) (a i : Nat) (v : Option Nat) (b : Nat) : mN (setB u a i v) b = mN u b := rfl
theorem gA_setB (u : Mem) (a i : Nat) (v : Option Nat) (b j : Nat) : mA (setB u a i v) b j = mA u b j := rfl
theorem gB_setB (u : Mem) (a i : Nat) (v : Option Nat) (b j : Nat) : mB (setB u a i v) b j = if b = a ∧ j = i then v else mB u b j := rfl
theorem gJ_setB (u : Mem) (a i : Nat) (v : Option Nat) (b j : Nat) : mJ (setB u a i v) b j = mJ u b j := rfl
theorem gO_setB (u : Mem) (a i : Nat) (v : Option Nat) (b k : Nat) : OB (setB u a i v) b k = OB u b k := rfl
theorem gL_setJ (u : Mem) (a i : Nat) (v : Int64)  : mL (setJ u a i v)  = mL u  := rfl
theorem gK_setJ (u : Mem) (a i : Nat) (v : Int64) (b : Nat) : mK (setJ u a i v) b = mK u b := rfl
theorem gI_setJ (u : Mem) (a i : Nat) (v : Int64) (g b : Nat) : mI (setJ u a i v) g b = mI u g b := rfl
theorem gR_setJ (u : Mem) (a i : Nat) (v : Int64) (g b : Nat) : mR (setJ u a i v) g b = mR u g b := rfl
theorem gN_setJ (u : Mem) (a i : Nat) (v : Int64) (b : Nat) : mN (setJ u a i v) b = mN u b := rfl
theorem gA_setJ (u : Mem) (a i : Nat) (v : Int64) (b j : Nat) : mA (setJ u a i v) b j = mA u b j := rfl
theorem gB_setJ (u : Mem) (a i : Nat) (v : Int64) (b j : Nat) : mB (setJ u a i v) b j = mB u b j := rfl
theorem gJ_setJ (u : Mem) (a i : Nat) (v : Int64) (b j : Nat) : mJ (setJ u a i v) b j = if b = a ∧ j = i then v else mJ u b j := rfl
theorem gO_setJ (u : Mem) (a i : Nat) (v : Int64) (b k : Nat) : OB (setJ u a i v) b k = OB u b k := rfl
theorem gL_setC (u : Mem) (a : Nat) (f : Nat → Option Nat)  : mL (setC u a f)  = mL u  := rfl
theorem gK_setC (u : Mem) (a : Nat) (f : Nat → Option Nat) (b : Nat) : mK (setC u a f) b = mK u b := rfl
theorem gI_setC (u : Mem) (a : Nat) (f : Nat → Option Nat) (g b : Nat) : mI (setC u a f) g b = mI u g b := rfl
theorem gR_setC (u : Mem) (a : Nat) (f : Nat → Option Nat) (g b : Nat) : mR (setC u a f) g b = mR u g b := rfl
theorem gN_setC (u : Mem) (a : Nat) (f : Nat → Option Nat) (b : Nat) : mN (setC u a f) b = mN u b := rfl
theorem gA_setC (u : Mem) (a : Nat) (f : Nat → Option Nat) (b j : Nat) : mA (setC u a f) b j = mA u b j := rfl
theorem gB_setC (u : Mem) (a : Nat) (f : Nat → Option Nat) (b j : Nat) : mB (setC u a f) b j = if b = a then f j else mB u b j := by simp only [mB, setC]; split <;> rfl
theorem gJ_setC (u : Mem) (a : Nat) (f : Nat → Option Nat) (b j : Nat) : mJ (setC u a f) b j = mJ u b j := rfl
theorem gO_setC (u : Mem) (a : Nat) (f : Nat → Option Nat) (b k : Nat) : OB (setC u a f) b k = OB u b k := rfl
theorem gK_mNew (u : Mem) (q k n : Nat) (b : Nat) : mK (mNew u q k n) b = if b = q then k else mK u b := by simp only [mK, mNew]; try split <;> rfl
theorem gI_mNew (u : Mem) (q k n : Nat) (g b : Nat) : mI (mNew u q k n) g b = if b = q then 0 else mI u g b := by simp only [mI, mNew]; try split <;> rfl
theorem gR_mNew (u : Mem) (q k n : Nat) (g b : Nat) : mR (mNew u q k n) g b = if b = q then none else mR u g b := by simp only [mR, mNew]; try split <;> rfl
theorem gN_mNew (u : Mem) (q k n : Nat) (b : Nat) : mN (mNew u q k n) b = if b = q then n else mN u b := by simp only [mN, mNew]; try split <;> rfl
theorem gA_mNew (u : Mem) (q k n : Nat) (b j : Nat) : mA (mNew u q k n) b j = if b = q then 0 else mA u b j := by simp only [mA, mNew]; try split <;> rfl
theorem gB_mNew (u : Mem) (q k n : Nat) (b j : Nat) : mB (mNew u q k n) b j = if b = q then none else mB u b j := by simp only [mB, mNew]; try split <;> rfl
theorem gJ_mNew (u : Mem) (q k n : Nat) (b j : Nat) : mJ (mNew u q k n) b j = if b = q then 0 else mJ u b j := by simp only [mJ, mNew]; try split <;> rfl
theorem gL_mNew (u : Mem) (q k n : Nat) : mL (mNew u q k n) = mL u ++ [q] := rfl
theorem gO_new {u : Mem} {q k n b k2 : Nat} (hq : q ∉ mL u) (h : OB u b k2) : OB (mNew u q k n) b k2 := ⟨List.mem_append_left _ h.1, by rw [gK_mNew, if_neg (fun e : b = q => hq (e ▸ h.1))]; exact h.2⟩
theorem gO_self {u : Mem} {q k n : Nat} : OB (mNew u q k n) q k := ⟨List.mem_append_right _ (List.mem_singleton.mpr rfl), by rw [gK_mNew, if_pos rfl]⟩
theorem ob_ne {u : Mem} {a b k1 k2 : Nat} (h1 : OB u a k1) (h2 : OB u b k2) (h : k1 ≠ k2) : a ≠ b := fun e => h (by rw [← h1.2, e, h2.2])
theorem ob_fresh {u : Mem} {a k q : Nat} (h : OB u a k) (hq : q ∉ mL u) : a ≠ q := fun e => hq (e ▸ h.1)
def up2 (s : Nat → Nat → Int32) (k i : Nat) (v : Int32) : Nat → Nat → Int32 := fun k2 i2 => if k2 = k ∧ i2 = i then v else s k2 i2
theorem up2_at (s : Nat → Nat → Int32) (k i : Nat) (v : Int32) (k2 i2 : Nat) : up2 s k i v k2 i2 = if k2 = k ∧ i2 = i then v else s k2 i2 := rfl
