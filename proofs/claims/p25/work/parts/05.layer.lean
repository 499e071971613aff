/-! the abstract store: addresses, kinds, int fields, reference fields (by field, then address), lengths, int rows, reference rows, long rows -/
abbrev Mem : Type := List Nat × (Nat → Nat) × (Nat → Nat → Int32) × (Nat → Nat → Option Nat) × (Nat → Nat) × (Nat → Nat → Int32) × (Nat → Nat → Option Nat) × (Nat → Nat → Int64)
def mL (u : Mem) : List Nat := u.1
def mK (u : Mem) : Nat → Nat := u.2.1
def mI (u : Mem) : Nat → Nat → Int32 := u.2.2.1
def mR (u : Mem) : Nat → Nat → Option Nat := u.2.2.2.1
def mN (u : Mem) : Nat → Nat := u.2.2.2.2.1
def mA (u : Mem) : Nat → Nat → Int32 := u.2.2.2.2.2.1
def mB (u : Mem) : Nat → Nat → Option Nat := u.2.2.2.2.2.2.1
def mJ (u : Mem) : Nat → Nat → Int64 := u.2.2.2.2.2.2.2
def setI (u : Mem) (f a : Nat) (v : Int32) : Mem := (mL u, mK u, (fun g b => if g = f ∧ b = a then v else mI u g b), mR u, mN u, mA u, mB u, mJ u)
def setR (u : Mem) (f a : Nat) (v : Option Nat) : Mem := (mL u, mK u, mI u, (fun g b => if g = f ∧ b = a then v else mR u g b), mN u, mA u, mB u, mJ u)
def setA (u : Mem) (a i : Nat) (v : Int32) : Mem := (mL u, mK u, mI u, mR u, mN u, (fun b j => if b = a ∧ j = i then v else mA u b j), mB u, mJ u)
def setB (u : Mem) (a i : Nat) (v : Option Nat) : Mem := (mL u, mK u, mI u, mR u, mN u, mA u, (fun b j => if b = a ∧ j = i then v else mB u b j), mJ u)
def setC (u : Mem) (a : Nat) (f : Nat → Option Nat) : Mem := (mL u, mK u, mI u, mR u, mN u, mA u, (fun b => if b = a then f else mB u b), mJ u)
def setJ (u : Mem) (a i : Nat) (v : Int64) : Mem := (mL u, mK u, mI u, mR u, mN u, mA u, mB u, (fun b j => if b = a ∧ j = i then v else mJ u b j))
def mNew (u : Mem) (q k n : Nat) : Mem := (mL u ++ [q], (fun b => if b = q then k else mK u b), (fun g b => if b = q then 0 else mI u g b), (fun g b => if b = q then none else mR u g b), (fun b => if b = q then n else mN u b), (fun b => if b = q then (fun _ => 0) else mA u b), (fun b => if b = q then (fun _ => none) else mB u b), (fun b => if b = q then (fun _ => 0) else mJ u b))
def OB (u : Mem) (a k : Nat) : Prop := a ∈ mL u ∧ mK u a = k
/-- the classes' numbers and slots; the numbers of the array classes; 0: the first address of ours, 1: the empty array, 2: a class object -/
abbrev Ctx : Type := va_G × (Nat → ClassId) × (Nat → Nat)
def Ab (G : Ctx) : Nat → Prop := fun q => G.2.2 0 ≤ q
def cel (G : Ctx) (u : Mem) (a : Nat) : va_E := if mK u a = 0 then .inr (0, [.int (mI u 0 a), va_rf (mR u 1 a), .int (mI u 2 a)]) else if mK u a = 1 then .inr (1, [va_rf (mR u 32 a), va_rf (mR u 33 a)]) else if mK u a = 2 then .inr (2, [.int (mI u 64 a), .int (mI u 65 a), .int (mI u 66 a), .int (mI u 67 a)]) else if mK u a = 3 then .inr (3, [.int (mI u 96 a), .int (mI u 97 a), .int (mI u 98 a), .int (mI u 99 a)]) else if mK u a = 4 then .inr (4, [.int (mI u 128 a), .int (mI u 129 a), .int (mI u 130 a), va_rf (mR u 131 a)]) else if mK u a = 5 then .inr (5, [.int (mI u 160 a), .int (mI u 161 a), .int (mI u 162 a), .int (mI u 163 a), va_rf (mR u 164 a), .int (mI u 165 a), .int (mI u 166 a)]) else if mK u a = 6 then .inr (6, [va_rf (mR u 192 a), va_rf (mR u 193 a), va_rf (mR u 194 a), va_rf (mR u 195 a), .int (mI u 196 a), .int (mI u 197 a)]) else if mK u a = 8 then .inl (G.2.1 0, mN u a, .inl (mA u a)) else if mK u a = 9 then .inl (G.2.1 1, mN u a, .inl (mA u a)) else if mK u a = 10 then .inl (G.2.1 2, mN u a, .inr (.inl (mJ u a))) else if mK u a = 11 then .inl (G.2.1 3, mN u a, .inr (.inr (.inr (.inr (mB u a))))) else if mK u a = 12 then .inl (G.2.1 4, mN u a, .inr (.inr (.inr (.inr (mB u a))))) else if mK u a = 13 then .inl (G.2.1 5, mN u a, .inr (.inr (.inr (.inr (mB u a))))) else .inr (99, [])
theorem cel_0 {G : Ctx} {u : Mem} {a : Nat} (h : mK u a = 0) : cel G u a = .inr (0, [.int (mI u 0 a), va_rf (mR u 1 a), .int (mI u 2 a)]) := by simp [cel, h]
theorem cel_1 {G : Ctx} {u : Mem} {a : Nat} (h : mK u a = 1) : cel G u a = .inr (1, [va_rf (mR u 32 a), va_rf (mR u 33 a)]) := by simp [cel, h]
theorem cel_2 {G : Ctx} {u : Mem} {a : Nat} (h : mK u a = 2) : cel G u a = .inr (2, [.int (mI u 64 a), .int (mI u 65 a), .int (mI u 66 a), .int (mI u 67 a)]) := by simp [cel, h]
theorem cel_3 {G : Ctx} {u : Mem} {a : Nat} (h : mK u a = 3) : cel G u a = .inr (3, [.int (mI u 96 a), .int (mI u 97 a), .int (mI u 98 a), .int (mI u 99 a)]) := by simp [cel, h]
theorem cel_4 {G : Ctx} {u : Mem} {a : Nat} (h : mK u a = 4) : cel G u a = .inr (4, [.int (mI u 128 a), .int (mI u 129 a), .int (mI u 130 a), va_rf (mR u 131 a)]) := by simp [cel, h]
theorem cel_5 {G : Ctx} {u : Mem} {a : Nat} (h : mK u a = 5) : cel G u a = .inr (5, [.int (mI u 160 a), .int (mI u 161 a), .int (mI u 162 a), .int (mI u 163 a), va_rf (mR u 164 a), .int (mI u 165 a), .int (mI u 166 a)]) := by simp [cel, h]
theorem cel_6 {G : Ctx} {u : Mem} {a : Nat} (h : mK u a = 6) : cel G u a = .inr (6, [va_rf (mR u 192 a), va_rf (mR u 193 a), va_rf (mR u 194 a), va_rf (mR u 195 a), .int (mI u 196 a), .int (mI u 197 a)]) := by simp [cel, h]
theorem cel_8 {G : Ctx} {u : Mem} {a : Nat} (h : mK u a = 8) : cel G u a = .inl (G.2.1 0, mN u a, .inl (mA u a)) := by simp [cel, h]
theorem cel_9 {G : Ctx} {u : Mem} {a : Nat} (h : mK u a = 9) : cel G u a = .inl (G.2.1 1, mN u a, .inl (mA u a)) := by simp [cel, h]
theorem cel_10 {G : Ctx} {u : Mem} {a : Nat} (h : mK u a = 10) : cel G u a = .inl (G.2.1 2, mN u a, .inr (.inl (mJ u a))) := by simp [cel, h]
theorem cel_11 {G : Ctx} {u : Mem} {a : Nat} (h : mK u a = 11) : cel G u a = .inl (G.2.1 3, mN u a, .inr (.inr (.inr (.inr (mB u a))))) := by simp [cel, h]
theorem cel_12 {G : Ctx} {u : Mem} {a : Nat} (h : mK u a = 12) : cel G u a = .inl (G.2.1 4, mN u a, .inr (.inr (.inr (.inr (mB u a))))) := by simp [cel, h]
theorem cel_13 {G : Ctx} {u : Mem} {a : Nat} (h : mK u a = 13) : cel G u a = .inl (G.2.1 5, mN u a, .inr (.inr (.inr (.inr (mB u a))))) := by simp [cel, h]
theorem cel_same {G : Ctx} {u v : Mem} {b : Nat} (h1 : mK v b = mK u b) (h2 : ∀ g, mI v g b = mI u g b) (h3 : ∀ g, mR v g b = mR u g b) (h4 : mN v b = mN u b) (h5 : mA v b = mA u b) (h6 : mB v b = mB u b) (h7 : mJ v b = mJ u b) : cel G v b = cel G u b := by
  simp only [cel, h1, h2, h3, h4, h5, h6, h7]
theorem up_I {G : Ctx} {u : Mem} {f a : Nat} {v : Int32} {e : va_E} (h : cel G (setI u f a v) a = e) (b : Nat) : va_up (cel G u) a e b = cel G (setI u f a v) b := by
  by_cases hb : b = a
  · subst hb; rw [va_up_self]; exact h.symm
  · rw [va_up_ne _ _ hb]; exact (cel_same (u := u) (v := setI u f a v) rfl (fun g => by simp [setI, mI, hb]) (fun _ => rfl) rfl rfl rfl rfl).symm
theorem up_R {G : Ctx} {u : Mem} {f a : Nat} {v : Option Nat} {e : va_E} (h : cel G (setR u f a v) a = e) (b : Nat) : va_up (cel G u) a e b = cel G (setR u f a v) b := by
  by_cases hb : b = a
  · subst hb; rw [va_up_self]; exact h.symm
  · rw [va_up_ne _ _ hb]; exact (cel_same (u := u) (v := setR u f a v) rfl (fun _ => rfl) (fun g => by simp [setR, mR, hb]) rfl rfl rfl rfl).symm
theorem up_A {G : Ctx} {u : Mem} {a i : Nat} {v : Int32} {e : va_E} (h : cel G (setA u a i v) a = e) (b : Nat) : va_up (cel G u) a e b = cel G (setA u a i v) b := by
  by_cases hb : b = a
  · subst hb; rw [va_up_self]; exact h.symm
  · rw [va_up_ne _ _ hb]; exact (cel_same (u := u) (v := setA u a i v) rfl (fun _ => rfl) (fun _ => rfl) rfl (by funext j; simp [setA, mA, hb]) rfl rfl).symm
theorem up_B {G : Ctx} {u : Mem} {a i : Nat} {v : Option Nat} {e : va_E} (h : cel G (setB u a i v) a = e) (b : Nat) : va_up (cel G u) a e b = cel G (setB u a i v) b := by
  by_cases hb : b = a
  · subst hb; rw [va_up_self]; exact h.symm
  · rw [va_up_ne _ _ hb]; exact (cel_same (u := u) (v := setB u a i v) rfl (fun _ => rfl) (fun _ => rfl) rfl rfl (by funext j; simp [setB, mB, hb]) rfl).symm
theorem up_C {G : Ctx} {u : Mem} {a : Nat} {f : Nat → Option Nat} {e : va_E} (h : cel G (setC u a f) a = e) (b : Nat) : va_up (cel G u) a e b = cel G (setC u a f) b := by
  by_cases hb : b = a
  · subst hb; rw [va_up_self]; exact h.symm
  · rw [va_up_ne _ _ hb]; exact (cel_same (u := u) (v := setC u a f) rfl (fun _ => rfl) (fun _ => rfl) rfl rfl (by simp [setC, mB, hb]) rfl).symm
theorem up_J {G : Ctx} {u : Mem} {a i : Nat} {v : Int64} {e : va_E} (h : cel G (setJ u a i v) a = e) (b : Nat) : va_up (cel G u) a e b = cel G (setJ u a i v) b := by
  by_cases hb : b = a
  · subst hb; rw [va_up_self]; exact h.symm
  · rw [va_up_ne _ _ hb]; exact (cel_same (u := u) (v := setJ u a i v) rfl (fun _ => rfl) (fun _ => rfl) rfl rfl rfl (by funext j; simp [setJ, mJ, hb])).symm
theorem up_N {G : Ctx} {u : Mem} {q k n : Nat} {e : va_E} (h : cel G (mNew u q k n) q = e) (b : Nat) : va_up (cel G u) q e b = cel G (mNew u q k n) b := by
  by_cases hb : b = q
  · subst hb; rw [va_up_self]; exact h.symm
  · rw [va_up_ne _ _ hb]; exact (cel_same (u := u) (v := mNew u q k n) (by simp [mNew, mK, hb]) (fun g => by simp [mNew, mI, hb]) (fun g => by simp [mNew, mR, hb]) (by simp [mNew, mN, hb]) (by simp [mNew, mA, hb]) (by simp [mNew, mB, hb]) (by simp [mNew, mJ, hb])).symm
abbrev wld (G : Ctx) (u : Mem) : va_W := va_pl (mL u) (cel G u)
def tyl (G : Ctx) : List (ClassId × FieldType) := [(G.2.1 0, .int), (G.2.1 1, .int), (G.2.1 2, .int), (G.2.1 3, .object "LanternDesk$Street"), (G.2.1 4, .object "LanternDesk$Escort"), (G.2.1 5, .object "java/lang/Object")]
def Wp (G : Ctx) (u : Mem) (H : Heap) : Prop := va_P G.1 vwCl (wld G u) H ∧ va_D (Ab G) (wld G u)
def Wd (G : Ctx) (u : Mem) (s : State) (H : Heap) (locs : List Loc) : Prop := Wp G u H ∧ va_S (Ab G) s.heap H locs
theorem wAt {G : Ctx} {u : Mem} {a : Nat} (ha : a ∈ mL u) {e : va_E} (he : cel G u a = e) : ∃ k : Nat, (wld G u)[k]? = some (a, e) := by
  obtain ⟨k, hk⟩ := va_pl_get (X := []) (f := cel G u) ha
  rw [he] at hk
  exact ⟨k, hk⟩
theorem wSet {G : Ctx} {u v : Mem} {A : Nat → Prop} (hD : va_D A (wld G u)) {a k : Nat} {e0 e : va_E} (ha : a ∈ mL u) (hk : (wld G u)[k]? = some (a, e0)) (he0 : cel G u a = e0) (hL : mL v = mL u) (hup : ∀ b, va_up (cel G u) a e b = cel G v b) : (wld G u).set k (a, e) = wld G v := by
  subst he0
  have h1 := va_pl_set (X := []) (f := cel G u) (e := e) hD ha hk
  refine h1.trans ?_
  show va_pl (mL u) _ = va_pl (mL v) _
  rw [hL]
  exact va_pl_congr hup
theorem wPush {G : Ctx} {u : Mem} {q k n : Nat} {e : va_E} (hq : q ∉ mL u) (he : cel G (mNew u q k n) q = e) : wld G u ++ [(q, e)] = wld G (mNew u q k n) := by
  rw [wld, va_pl_push hq]
  exact va_pl_congr (up_N he)
theorem wFresh {G : Ctx} {u : Mem} {A : Nat → Prop} {q : Nat} {e : va_E} (hD : va_D A (wld G u ++ [(q, e)])) : q ∉ mL u := va_pl_fresh2 (X := []) hD

abbrev NF : List (String × Nat × String × String × String × String) := [("LanternDesk", 62, "LanternDesk$Street", "purse", "I", "LanternDesk"), ("LanternDesk", 73, "LanternDesk$Street", "price", "I", "LanternDesk"), ("LanternDesk", 76, "LanternDesk$Street", "hasCamera", "Z", "LanternDesk"), ("LanternDesk", 180, "LanternDesk$Escort", "number", "I", "LanternDesk"), ("LanternDesk", 107, "LanternDesk$Escort", "street", "I", "LanternDesk"), ("LanternDesk", 168, "LanternDesk$Escort", "rank", "I", "LanternDesk"), ("LanternDesk", 102, "LanternDesk$Escort", "isFree", "Z", "LanternDesk"), ("LanternDesk", 241, "LanternDesk$Walk", "number", "I", "LanternDesk"), ("LanternDesk", 213, "LanternDesk$Walk", "from", "I", "LanternDesk"), ("LanternDesk", 235, "LanternDesk$Walk", "to", "I", "LanternDesk"), ("LanternDesk", 158, "LanternDesk$Walk", "state", "I", "LanternDesk"), ("LanternDesk", 154, "LanternDesk$Walk", "escort", "LLanternDesk$Escort;", "LanternDesk"), ("LanternDesk", 183, "LanternDesk$Walk", "minutesInDark", "I", "LanternDesk"), ("LanternDesk", 163, "LanternDesk$Walk", "isJudged", "Z", "LanternDesk"), ("LanternDesk$Album", 45, "LanternDesk$Picture", "erasedOn", "I", "LanternDesk")]
abbrev NM : List (String × Nat × MethodName × String) := [("LanternDesk", 30, ⟨"LanternDesk$Album", "<init>", "()V"⟩, "LanternDesk")]
abbrev NX : List (String × String) := [("java/lang/IndexOutOfBoundsException", "java/lang/IndexOutOfBoundsException"), ("java/lang/IllegalArgumentException", "java/lang/IllegalArgumentException"), ("java/lang/IllegalStateException", "java/lang/IllegalStateException"), ("LanternDesk$Walk", "java/lang/Object"), ("LanternDesk$Picture", "java/lang/Object")]
abbrev NO : List (String × String) := []
abbrev SL : List (String × Nat × String) := [("LanternDesk", 52, "no such street"), ("LanternDesk", 110, "the walk goes nowhere"), ("LanternDesk", 115, "no more walks can be asked for"), ("LanternDesk", 126, "minutes out of range"), ("LanternDesk", 128, "the night would be too long"), ("LanternDesk", 96, "no such escort"), ("LanternDesk", 105, "the escort is not free"), ("LanternDesk", 140, "a walk is not over"), ("LanternDesk", 142, "it is the last day"), ("LanternDesk", 152, "no such walk"), ("LanternDesk", 161, "the walk is not over"), ("LanternDesk", 166, "the walk was judged before"), ("LanternDesk", 59, "coins out of range"), ("LanternDesk", 68, "the purse would be too full"), ("LanternDesk", 71, "price out of range"), ("LanternDesk", 80, "no such voter"), ("LanternDesk", 82, "days out of range")]
abbrev AOL : List String := ["LanternDesk$Street", "LanternDesk$Escort", "java/lang/Object"]
abbrev ND : List MethodName := [⟨"java/lang/RuntimeException", "<init>", "()V"⟩, ⟨"java/lang/RuntimeException", "<init>", "(Ljava/lang/String;)V"⟩, ⟨"java/lang/Exception", "<init>", "()V"⟩, ⟨"java/lang/Exception", "<init>", "(Ljava/lang/String;)V"⟩, ⟨"java/lang/Throwable", "<init>", "()V"⟩, ⟨"java/lang/Throwable", "<init>", "(Ljava/lang/String;)V"⟩, ⟨"java/lang/Object", "getClass", "()Ljava/lang/Class;"⟩]
def yGetClass : MethodName := ⟨"java/lang/Object", "getClass", "()Ljava/lang/Class;"⟩
/-- what a state of the run gives, beside the words: classes, nest mates' links, constants, statics -/
def Kf (G : Ctx) (U : State) (H : Heap) : Prop :=
  va_K G.1 vwCl (tyl G) U ∧ (∀ q ∈ NF, va_Nw (.fieldLinkNest q.1 q.2.1 q.2.2.1 q.2.2.2.1 q.2.2.2.2.1 q.2.2.2.2.2) U) ∧ (∀ q ∈ NM, va_Nw (.methodLinkNest q.1 q.2.1 q.2.2.1 q.2.2.2) U) ∧ (∀ q ∈ NX, va_Nw (.castable q.1 q.2) U) ∧ (∀ z ∈ ND, va_Nw (.declares z) U) ∧ (∀ q ∈ NO, va_Nc q.1 q.2 U) ∧
  (∀ q ∈ SL, ∃ a : Nat, vk_R q.1 q.2.1 q.2.2 a U) ∧ (∀ C ∈ AOL, va_AO C U) ∧ va_Mi "[Ljava/lang/Object;" (G.2.2 2) U ∧
  va_Z "java/util/ArrayList" "DEFAULTCAPACITY_EMPTY_ELEMENTDATA" "[Ljava/lang/Object;" (.ref (G.2.2 1)) (Ab G) U H ∧ va_T (.object "java/lang/Object") (G.2.2 1) 0 (fun _ => .null) (Ab G) U H ∧
  vx_Zq Bundle.tN "UNASSIGNED_STACK" Bundle.steD (Ab G) U H ∧ vx_Zq Bundle.tN "SUPPRESSED_SENTINEL" Bundle.listD (Ab G) U H ∧ G.2.2 0 ≤ H.size ∧ va_X (G.2.2 3) (G.2.2 4) (fun j => nI (G.2.2 (5 + j))) U H ∧ G.2.2 3 < G.2.2 0
theorem Kf.moved {G : Ctx} {s U : State} {H H1 : Heap} (h : Kf G s H) (hW : s.WarmedH U.vm) (hz : H.size ≤ H1.size) (hk : ∀ a : Nat, a < H.size → ¬ Ab G a → H1[a]? = H[a]?) : Kf G U H1 := by
  obtain ⟨h1, h2, h3, h4, h5, h6, h7, h8, h9, h10, h11, h12, h13, h14, h15, h16⟩ := h
  refine ⟨h1.moved hW.alike, fun q hq => va_Nw.warmF hW (h2 q hq), fun q hq => va_Nw.warmM hW (h3 q hq), fun q hq => va_Nw.warmC hW (h4 q hq), fun z hz => va_Nw.warmD hW (h5 z hz), fun q hq => (h6 q hq).moved hW.alike, fun q hq => ?_, fun C hC => (h8 C hC).moved hW.alike, h9.moved hW.alike, (h10.moved hW.alike).kept hk, (h11.moved hW.alike).kept hk, (h12.moved hW.alike).kept hk, (h13.moved hW.alike).kept hk, Nat.le_trans h14 hz, (h15.moved hW.alike).kept (hk _ (Nat.lt_of_lt_of_le h16 h14) (Nat.not_le.mpr h16)), h16⟩
  obtain ⟨a, ha⟩ := h7 q hq
  exact ⟨a, ha.warm hW⟩
/-- a method's body at work: the machine, the code, the words, the facts -/
def Fx (p : Program) (l : Launch) (s : State) (m : MethodId) (args : Array Value) (meth : Method) (c : Code) (cc : ByteArray) (nL : Nat) (own : String) (G : Ctx) : Prop :=
  CallFix p m c cc nL s args wsL_law own ∧ Kf G s s.heap ∧ meth.locks = false ∧ l.stackTraces = false
theorem Fx.hA {p : Program} {l : Launch} {s : State} {m : MethodId} {args : Array Value} {meth : Method} {c : Code} {cc : ByteArray} {nL : Nat} {own : String} {G : Ctx} (F : Fx p l s m args meth c cc nL own G) : ∀ q, s.heap.size ≤ q → Ab G q := fun _ h => Nat.le_trans F.2.1.2.2.2.2.2.2.2.2.2.2.2.2.2.1 h
theorem Wd.kf {p : Program} {l : Launch} {s : State} {m : MethodId} {args : Array Value} {meth : Method} {c : Code} {cc : ByteArray} {nL : Nat} {own : String} {G : Ctx} {u : Mem} {H : Heap} {locs : List Loc} (hW : Wd G u s H locs) (F : Fx p l s m args meth c cc nL own G) {U : State} (hU : U.heap = H) (hw : s.WarmedH U.vm) : Kf G U U.heap := by
  rw [hU]
  exact F.2.1.moved hw hW.2.1 hW.2.2.1
theorem ra_eq {s : State} {c1 c2 : ClassId} {ty : FieldType} (h1 : va_RA s c1 ty) (h2 : va_RA s c2 ty) : c1 = c2 := by
  cases ty with
  | object C =>
    obtain ⟨_, _, _, _, _, a⟩ := h1
    obtain ⟨_, _, _, _, _, b⟩ := h2
    exact Option.some.inj (a.symm.trans b)
  | _ => exact Option.some.inj (Eq.trans (Eq.symm h1) h2)
theorem tya_eq {G : Ctx} {D : va_G} {s : State} {cl : List vw_C} {cA : ClassId} {ty : FieldType} {j : Nat} (hK : va_K D cl (tyl G ++ [(cA, ty)]) s) (hj : (tyl G)[j]? = some (G.2.1 j, ty)) : cA = G.2.1 j := by
  have h1 := (hK.2 6 (cA, ty) (by rfl)).2
  have h2 := (hK.2 j (G.2.1 j, ty) (by rw [List.getElem?_append_left (List.getElem?_eq_some_iff.mp hj).1]; exact hj)).2
  exact ra_eq h1 h2
theorem va_rf_cat (r : Option Nat) : (va_rf r).category = 1 := by cases r <;> rfl
