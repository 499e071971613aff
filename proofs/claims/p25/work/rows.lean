section
-- ===== PART A: goes FIRST, ahead of the names: the tables' words, and 'selects' of the private methods out of them =====
/-- a private method of a class that the tables say can be made, by its rows of tables_1 -/
def lw_okq (q : MethodName × Nat) : Prop := (q.1.cls ≠ "java/lang/invoke/MethodHandle" ∧ q.1.cls ≠ "java/lang/invoke/VarHandle") ∧ Cond.instantiable q.1.cls q.2 ∈ tables_1 ∧ Cond.privateMethod q.1 ∈ tables_1 ∧ Cond.instanceMethod q.1 ∈ tables_1
theorem lw_p0 : lw_okq (⟨"java/lang/Throwable", "fillInStackTrace", "(I)Ljava/lang/Throwable;"⟩, 6) := ⟨⟨by decide +kernel, by decide +kernel⟩, List.mem_of_getElem? (i := 184) (by decide +kernel), List.mem_of_getElem? (i := 182) (by decide +kernel), List.mem_of_getElem? (i := 183) (by decide +kernel)⟩
theorem lw_p1 : lw_okq (⟨"java/util/ArrayList", "add", "(Ljava/lang/Object;[Ljava/lang/Object;I)V"⟩, 3) := ⟨⟨by decide +kernel, by decide +kernel⟩, List.mem_of_getElem? (i := 35) (by decide +kernel), List.mem_of_getElem? (i := 289) (by decide +kernel), List.mem_of_getElem? (i := 290) (by decide +kernel)⟩
theorem lw_p2 : lw_okq (⟨"java/util/ArrayList", "grow", "()[Ljava/lang/Object;"⟩, 3) := ⟨⟨by decide +kernel, by decide +kernel⟩, List.mem_of_getElem? (i := 35) (by decide +kernel), List.mem_of_getElem? (i := 293) (by decide +kernel), List.mem_of_getElem? (i := 294) (by decide +kernel)⟩
theorem lw_p3 : lw_okq (⟨"java/util/ArrayList", "grow", "(I)[Ljava/lang/Object;"⟩, 3) := ⟨⟨by decide +kernel, by decide +kernel⟩, List.mem_of_getElem? (i := 35) (by decide +kernel), List.mem_of_getElem? (i := 297) (by decide +kernel), List.mem_of_getElem? (i := 298) (by decide +kernel)⟩
theorem lw_p4 : lw_okq (⟨"LanternDesk", "giveEscorts", "()V"⟩, 6) := ⟨⟨by decide +kernel, by decide +kernel⟩, List.mem_of_getElem? (i := 23) (by decide +kernel), List.mem_of_getElem? (i := 348) (by decide +kernel), List.mem_of_getElem? (i := 349) (by decide +kernel)⟩
theorem lw_p5 : lw_okq (⟨"LanternDesk", "bestFreeEscort", "(I)LLanternDesk$Escort;"⟩, 6) := ⟨⟨by decide +kernel, by decide +kernel⟩, List.mem_of_getElem? (i := 23) (by decide +kernel), List.mem_of_getElem? (i := 366) (by decide +kernel), List.mem_of_getElem? (i := 367) (by decide +kernel)⟩
theorem lw_p6 : lw_okq (⟨"LanternDesk", "goOn", "()I"⟩, 6) := ⟨⟨by decide +kernel, by decide +kernel⟩, List.mem_of_getElem? (i := 23) (by decide +kernel), List.mem_of_getElem? (i := 383) (by decide +kernel), List.mem_of_getElem? (i := 384) (by decide +kernel)⟩
theorem lw_p7 : lw_okq (⟨"LanternDesk", "see", "(LLanternDesk$Walk;I)V"⟩, 6) := ⟨⟨by decide +kernel, by decide +kernel⟩, List.mem_of_getElem? (i := 23) (by decide +kernel), List.mem_of_getElem? (i := 393) (by decide +kernel), List.mem_of_getElem? (i := 394) (by decide +kernel)⟩
theorem lw_p8 : lw_okq (⟨"LanternDesk", "findStreet", "(I)LLanternDesk$Street;"⟩, 6) := ⟨⟨by decide +kernel, by decide +kernel⟩, List.mem_of_getElem? (i := 23) (by decide +kernel), List.mem_of_getElem? (i := 397) (by decide +kernel), List.mem_of_getElem? (i := 398) (by decide +kernel)⟩
theorem lw_p9 : lw_okq (⟨"LanternDesk", "findEscort", "(I)LLanternDesk$Escort;"⟩, 6) := ⟨⟨by decide +kernel, by decide +kernel⟩, List.mem_of_getElem? (i := 23) (by decide +kernel), List.mem_of_getElem? (i := 462) (by decide +kernel), List.mem_of_getElem? (i := 463) (by decide +kernel)⟩
theorem lw_p10 : lw_okq (⟨"LanternDesk", "areAllOver", "()Z"⟩, 6) := ⟨⟨by decide +kernel, by decide +kernel⟩, List.mem_of_getElem? (i := 23) (by decide +kernel), List.mem_of_getElem? (i := 472) (by decide +kernel), List.mem_of_getElem? (i := 473) (by decide +kernel)⟩
theorem lw_p11 : lw_okq (⟨"java/util/ArrayList", "fastRemove", "([Ljava/lang/Object;I)V"⟩, 3) := ⟨⟨by decide +kernel, by decide +kernel⟩, List.mem_of_getElem? (i := 35) (by decide +kernel), List.mem_of_getElem? (i := 486) (by decide +kernel), List.mem_of_getElem? (i := 487) (by decide +kernel)⟩
theorem lw_p12 : lw_okq (⟨"LanternDesk", "findWalk", "(I)LLanternDesk$Walk;"⟩, 6) := ⟨⟨by decide +kernel, by decide +kernel⟩, List.mem_of_getElem? (i := 23) (by decide +kernel), List.mem_of_getElem? (i := 495) (by decide +kernel), List.mem_of_getElem? (i := 496) (by decide +kernel)⟩
def lw_privs_1 : List (MethodName × Nat) := [(⟨"java/lang/Throwable", "fillInStackTrace", "(I)Ljava/lang/Throwable;"⟩, 6), (⟨"java/util/ArrayList", "add", "(Ljava/lang/Object;[Ljava/lang/Object;I)V"⟩, 3), (⟨"java/util/ArrayList", "grow", "()[Ljava/lang/Object;"⟩, 3), (⟨"java/util/ArrayList", "grow", "(I)[Ljava/lang/Object;"⟩, 3), (⟨"LanternDesk", "giveEscorts", "()V"⟩, 6), (⟨"LanternDesk", "bestFreeEscort", "(I)LLanternDesk$Escort;"⟩, 6), (⟨"LanternDesk", "goOn", "()I"⟩, 6), (⟨"LanternDesk", "see", "(LLanternDesk$Walk;I)V"⟩, 6), (⟨"LanternDesk", "findStreet", "(I)LLanternDesk$Street;"⟩, 6), (⟨"LanternDesk", "findEscort", "(I)LLanternDesk$Escort;"⟩, 6), (⟨"LanternDesk", "areAllOver", "()Z"⟩, 6), (⟨"java/util/ArrayList", "fastRemove", "([Ljava/lang/Object;I)V"⟩, 3), (⟨"LanternDesk", "findWalk", "(I)LLanternDesk$Walk;"⟩, 6)]
theorem lw_r1 : ∀ q ∈ lw_privs_1, lw_okq q := List.forall_mem_cons.mpr ⟨lw_p0, List.forall_mem_cons.mpr ⟨lw_p1, List.forall_mem_cons.mpr ⟨lw_p2, List.forall_mem_cons.mpr ⟨lw_p3, List.forall_mem_cons.mpr ⟨lw_p4, List.forall_mem_cons.mpr ⟨lw_p5, List.forall_mem_cons.mpr ⟨lw_p6, List.forall_mem_cons.mpr ⟨lw_p7, List.forall_mem_cons.mpr ⟨lw_p8, List.forall_mem_cons.mpr ⟨lw_p9, List.forall_mem_cons.mpr ⟨lw_p10, List.forall_mem_cons.mpr ⟨lw_p11, List.forall_mem_cons.mpr ⟨lw_p12, fun _ h => absurd h List.not_mem_nil⟩⟩⟩⟩⟩⟩⟩⟩⟩⟩⟩⟩⟩
def lw_privs : List (MethodName × Nat) := lw_privs_1
def lw_tbl : List Cond := k2_sels lw_privs ++ tables_1
theorem lw_privs_ok : ∀ q ∈ lw_privs, lw_okq q := lw_r1
end
section
/-! ===== BEGIN words of one list among another's, by their places ===== -/
theorem goodIn_r {big : List Cond} (ws : List Cond) (ps : List Nat) (hp : ws = ps.filterMap (fun i => big[i]?)) (h : ws.all goodWord = true) : GoodIn big ws := by
  intro w hw
  have h1 := List.all_eq_true.mp h w hw
  rw [hp] at hw
  obtain ⟨i, -, hi⟩ := List.mem_filterMap.mp hw
  have hm : w ∈ big := by first | exact List.mem_of_getElem? hi | exact List.getElem?_mem hi
  exact ⟨hm, good_of_word h1⟩
theorem goodIn_app {big a b : List Cond} (ha : GoodIn big a) (hb : GoodIn big b) : GoodIn big (a ++ b) := fun w h => (List.mem_append.mp h).elim (ha w) (hb w)
theorem goodIn_ca {big a b : List Cond} {c : Cond} (ha : GoodIn big (c :: a)) (hb : GoodIn big b) : GoodIn big (c :: (a ++ b)) := fun w h => (List.mem_cons.mp h).elim (fun e => ha w (List.mem_cons.mpr (Or.inl e))) (fun h => (List.mem_append.mp h).elim (fun h => ha w (List.mem_cons.mpr (Or.inr h))) (hb w))
theorem goodIn_sub {big ws : List Cond} (hm : ∀ w ∈ ws, w ∈ big) (h : ws.all goodWord = true) : GoodIn big ws := fun w hw => ⟨hm w hw, good_of_word (List.all_eq_true.mp h w hw)⟩
/-! ===== END ===== -/

/-! ===== BEGIN exceptions that leave a method, and their catching by the caller (launches without stack traces) ===== -/
section VXA
/-! The laws vx_back, vx_callV, vx_callS, vx_callSW, vx_throw0, vx_throwS follow proofs of the library, with one case more: JvmDerived/Free/Laws.lean (Back.of_free), Shelf42/LK1.lean (callV, callS), Shelf/KitTraced.lean (throwNew0V, throwNewS). -/
/-- where a method has thrown q: the class by its name, the cell, what was written, the world -/
def vx_T (XC : String → State → State → Prop) (st : State) (q : Addr) (t : State) (mc ms : Nat) (free : Addr → Prop) : Prop :=
  ∃ (E : String) (ce : Cell) (L : List Loc), XC E st t ∧ t.heap[q]? = some ce ∧ ce.vm = .none ∧ st.vm.findClass E = some ce.cls ∧ st.WarmedH t.vm ∧ st.sameButNew ({ t with vm := st.vm } : State) L mc ms ∧ ∀ z ∈ L, free z.base
def vx_Q (Qc : Array Value → State → Outcome → State → Prop) (XC : String → State → State → Prop) (mc ms : Nat) (free : Addr → Prop) : Array Value → State → Outcome → State → Prop := fun a st o t =>
  (Qc a st o t ∧ ∃ L, FrameEnd st o t L mc ms ∧ ∀ q ∈ L, free q.base) ∨ ∃ q, o = .threw q ∧ vx_T XC st q t mc ms free
/-- a callee that returns or throws -/
def vx_Met (l : Launch) (y : MethodName) (ws : List Cond) (rm : Room) (Pc : Array Value → State → Prop) (Qc : Array Value → State → Outcome → State → Prop) (XC : String → State → State → Prop) (mc ms : Nat) (free : Addr → Prop) : Prop :=
  MetFree l y (headSpec ws rm) Pc (fun _ _ _ _ _ => True) (vx_Q Qc XC mc ms free)
def vx_Post (XC : String → State → State → Prop) (mc ms : Nat) (free : Addr → Prop) : Pt → Array Value → Addr → Pt → Prop := fun A a q B =>
  ∃ (g : JFrame) (mk : MethodId) (t : State) (L : List Loc) (E : String) (ce : Cell), B.U.heap = t.heap ∧ B.U.vm = t.vm ∧ XC E (A.U.calling g mk a) t ∧ t.heap[q]? = some ce ∧ ce.vm = .none ∧ A.U.vm.findClass E = some ce.cls ∧ B.locs = A.locs ++ L ∧ (∀ z ∈ L, free z.base) ∧ B.cells = A.cells + mc ∧ B.slots = A.slots + ms
def vx_Back (l : Launch) (R : Room) (p : Program) (e : Env) (below : List Frame) (s : State) (sargs : Array Value) (y : MethodName) (len W9 : Nat)
    (Pre : Pt → Array Value → Prop) (Post : Pt → Array Value → Option Value → Pt → Prop) (PostX : Pt → Array Value → Addr → Pt → Prop) : Prop :=
  ∀ (m : MethodId) (meth : Method) (c : Code) (A : Pt) (g : JFrame) (ig : Instr) (mk : MethodId) (a : Array Value),
    Stand p l e R s m sargs below meth c A.U A.locs A.cells A.slots → g.method = m → g.locals.size = c.maxLocals → decode c.code g.pc = .ok (ig, len) →
    2 * g.monitorRoom + (g.stack.map fun v => v.category).sum ≤ W9 → A.U.methodNamed? y = some mk → Pre A a →
    (∃ (v : Option Value) (B : Pt), Stand p l e R s m sargs below meth c B.U B.locs B.cells B.slots ∧ Post A a v B ∧
      Steps p.tables e below (doInvoke e (A.U.setTop g) [] mk a).1 (B.U.setTop { g with pc := g.pc + len, stack := v.toList ++ g.stack })) ∨
    (∃ (q : Addr) (B : Pt), Stand p l e R s m sargs below meth c B.U B.locs B.cells B.slots ∧ PostX A a q B ∧
      Steps p.tables e below (doInvoke e (A.U.setTop g) [] mk a).1 ((B.U.setTop g).pushFrame (.throwing q)))
section Payer
variable {l : Launch} {R : Room} {p : Program} {e : Env} {below : List Frame} {s : State} {sargs : Array Value} {y : MethodName} {len W9 : Nat}
theorem vx_back {ws : List Cond} {rm : Room} {Pc : Array Value → State → Prop} {Qc : Array Value → State → Outcome → State → Prop} {XC : String → State → State → Prop} {mc ms : Nat} {free : Addr → Prop} {bytes : ByteArray} {maxL : Nat} {ret : Option FieldType}
    (hM : vx_Met l y ws rm Pc Qc XC mc ms free) (hblind : FrameBlind Pc) (hrc : rm.cells = mc) (hrs : rm.slots = ms)
    (hframes : rm.frames + 1 ≤ R.frames) (hlocals : W9 + (maxL + 11) + rm.locals ≤ R.locals)
    (hws : ∀ w ∈ ws, ∀ a' U, s.WarmedH U.vm → w.before a' U = true) (hcode : Cond.code y bytes maxL ret ∈ ws) (hinit : ∀ a' U, s.WarmedH U.vm → (Cond.initialized y.cls).before a' U = true) :
    vx_Back l R p e below s sargs y len W9 (PreOf R mc ms Pc) (PostOf Qc mc ms free) (vx_Post XC mc ms free) := by
  intro m meth c A g ig mk a X hg hsize hdg hW hn hp
  have h1 : (headSpec ws rm).pre.before a A.U = true := atoms_intro fun w hw => hws w hw _ _ X.warmed
  have h2 : (Cond.code y bytes maxL ret).before a A.U = true := hws _ hcode _ _ X.warmed
  have h3 : (Cond.initialized y.cls).before a A.U = true := hinit _ _ X.warmed
  have h4 : A.cells + (headSpec ws rm).room.cells ≤ R.cells := by rw [show (headSpec ws rm).room.cells = mc from hrc]; exact hp.1
  have h5 : A.slots + (headSpec ws rm).room.slots ≤ R.slots := by rw [show (headSpec ws rm).room.slots = ms from hrs]; exact hp.2.1
  have hPc : Pc a (A.U.calling g mk a) := hblind _ _ _ _ hp.2.2
  obtain ⟨U, Ls, c0, s0⟩ := A
  dsimp only [Pt.U, Pt.locs, Pt.cells, Pt.slots] at h1 h2 h3 h4 h5 X hn hPc ⊢
  obtain ⟨methY, cY, hmY, hcY, -, hlY, -, -, -, -⟩ := Cond.code_spec hn h2
  obtain ⟨kY, hkY, -⟩ := className_of_methodNamed hn
  have hinitY : kY.init = .initialized := Cond.initialized_spec (findClass_of_methodNamed hn) hkY h3
  have h : At U g.method c below := by rw [hg]; exact X.here
  have hlocals9 : W9 + (maxL + 11) + (headSpec ws rm).room.locals ≤ R.locals := hlocals
  have happ : (headSpec ws rm).appliesLoose y e.platform (U.calling g mk a) = true :=
    Spec.appliesLoose_calling (g := g) h hdg hn hkY hinitY
      (X.room_calling (g := g) (R' := (headSpec ws rm).room) hsize hmY hcY hframes (by rw [hlY]; omega) h4 h5) h1
  obtain ⟨mid, hmid⟩ := h.above
  have hfr : (U.setTop g).frames = (.java g :: mid) ++ below := by rw [State.frames_setTop' g h.top, hmid]; rfl
  obtain ⟨o, s₂, hsteps, -, hend, hq⟩ := Steps.callFree hM p X.admits X.cas X.clock (acts := []) hfr happ hPc trivial
  have hq' : vx_Q Qc XC mc ms free a (U.calling g mk a) o s₂ := hq
  rw [State.frames_setTop' g h.top] at hend
  obtain ⟨g₀, hg0⟩ := Option.isSome_iff_exists.mp h.top
  obtain ⟨r, hr⟩ := State.topJava?_eq_some.mp hg0
  have hr' : (({ U with heap := s₂.heap, slotsUsed := s₂.slotsUsed } : State).setVm s₂.vm).frames = .java g₀ :: r := hr
  rcases hq' with ⟨hqc, L, hfe, hL⟩ | ⟨q, rfl, E, ce, L, hx, hce, hcv, hcl, hW₂, hsm, hL⟩
  · obtain ⟨⟨v, rfl⟩, hW₂, e2, q2, q3, q4, q5, q6⟩ := id hfe
    have e3 : s₂ = ({ (U.calling g mk a).setFrames s₂.frames with heap := s₂.heap, slotsUsed := s₂.slotsUsed } : State).setVm s₂.vm := by
      have : s₂ = ({ s₂ with vm := (U.calling g mk a).vm } : State).setVm s₂.vm := rfl
      rw [e2] at this
      exact this
    obtain ⟨c₂, i₂, len₂, hc₂, hd₂, hf₂⟩ := hend
    have hW' : U.WarmedH s₂.vm := hW₂
    have hcc : c₂ = c := by
      have h1 : s₂.code? g.method = U.code? g.method := by
        rw [State.code?_eq, State.code?_eq, hW'.alike.method?]
      exact Option.some.inj (hc₂.symm.trans (h1.trans h.code))
    subst hcc
    have hlen : len₂ = len := by rw [hdg] at hd₂; cases hd₂; rfl
    subst hlen
    have hs₂ : s₂ = (({ U with heap := s₂.heap, slotsUsed := s₂.slotsUsed } : State).setVm s₂.vm).setTop { g with pc := g.pc + len₂, stack := v.toList ++ g.stack } := by
      refine e3.trans ?_
      rw [hf₂, State.calling_eq h.top, State.setFrames_setFrames, State.setTop_of_frames _ hr', hr]
      rfl
    have hsame : U.sameButNew ({ U with heap := s₂.heap, slotsUsed := s₂.slotsUsed } : State) L mc ms := by
      refine ⟨?_, q2, q3, q4, q5, q6⟩
      obtain ⟨t, ht, -⟩ := State.frames_cons hr
      show ({ U with heap := s₂.heap, slotsUsed := s₂.slotsUsed } : State) = { U.setFrames U.frames with heap := s₂.heap, slotsUsed := s₂.slotsUsed }
      rw [State.setFrames_self ht]
    subst hg
    refine Or.inl ⟨v, ⟨(({ U with heap := s₂.heap, slotsUsed := s₂.slotsUsed } : State).setVm s₂.vm), Ls ++ L, c0 + mc, s0 + ms⟩,
      ⟨X.admits, X.cas, X.clock, X.frames, X.room, X.hears, X.method, X.code, (X.here.setHeapUsed s₂.heap s₂.slotsUsed).setVm hW'.alike, X.tail, State.WarmedH.trans X.warmed hW', X.limits, X.bytes, X.same.trans (hsame.setVm s.vm)⟩,
      ⟨g, mk, s₂, L, rfl, rfl, hqc, rfl, hL, rfl, rfl⟩, ?_⟩
    show Steps p.tables e below _ ((({ U with heap := s₂.heap, slotsUsed := s₂.slotsUsed } : State).setVm s₂.vm).setTop { g with pc := g.pc + len₂, stack := v.toList ++ g.stack })
    rw [← hs₂]
    exact hsteps
  · obtain ⟨e2, q2, q3, q4, q5, q6⟩ := id hsm
    have e3 : s₂ = ({ (U.calling g mk a).setFrames s₂.frames with heap := s₂.heap, slotsUsed := s₂.slotsUsed } : State).setVm s₂.vm := by
      have : s₂ = ({ s₂ with vm := (U.calling g mk a).vm } : State).setVm s₂.vm := rfl
      rw [e2] at this
      exact this
    have hf₂ : s₂.frames = .throwing q :: .java g :: U.frames.tail := hend
    have hW' : U.WarmedH s₂.vm := hW₂
    have hs₂ : s₂ = ((({ U with heap := s₂.heap, slotsUsed := s₂.slotsUsed } : State).setVm s₂.vm).setTop g).pushFrame (.throwing q) := by
      refine e3.trans ?_
      rw [hf₂, State.calling_eq h.top, State.setFrames_setFrames, State.pushFrame, State.frames_setTop _ hr', State.setTop_of_frames _ hr', State.setFrames_setFrames, hr]
      rfl
    have hsame : U.sameButNew ({ U with heap := s₂.heap, slotsUsed := s₂.slotsUsed } : State) L mc ms := by
      refine ⟨?_, q2, q3, q4, q5, q6⟩
      obtain ⟨t, ht, -⟩ := State.frames_cons hr
      show ({ U with heap := s₂.heap, slotsUsed := s₂.slotsUsed } : State) = { U.setFrames U.frames with heap := s₂.heap, slotsUsed := s₂.slotsUsed }
      rw [State.setFrames_self ht]
    subst hg
    refine Or.inr ⟨q, ⟨(({ U with heap := s₂.heap, slotsUsed := s₂.slotsUsed } : State).setVm s₂.vm), Ls ++ L, c0 + mc, s0 + ms⟩,
      ⟨X.admits, X.cas, X.clock, X.frames, X.room, X.hears, X.method, X.code, (X.here.setHeapUsed s₂.heap s₂.slotsUsed).setVm hW'.alike, X.tail, State.WarmedH.trans X.warmed hW', X.limits, X.bytes, X.same.trans (hsame.setVm s.vm)⟩,
      ⟨g, mk, s₂, L, E, ce, rfl, rfl, hx, hce, hcv, hcl, rfl, hL, rfl, rfl⟩, ?_⟩
    show Steps p.tables e below _ (((({ U with heap := s₂.heap, slotsUsed := s₂.slotsUsed } : State).setVm s₂.vm).setTop g).pushFrame (.throwing q))
    rw [← hs₂]
    exact hsteps
end Payer
section Calls
variable {p : Program} {l : Launch} {e : Env} {R : Room} {s : State} {m : MethodId} {args : Array Value} {below : List Frame} {meth : Method} {c : Code} {T : State} {locs : List Loc} {cells slots : Nat}
theorem vx_callV (X : Stand p l e R s m args below meth c T locs cells slots) (hexec : p.tables.exec = Jvm.exec) {own C : String} {index : Nat} {y : MethodName} {bytes : ByteArray} {maxL : Nat} {ret : Option FieldType}
    (hown : s.vm.findClass own = some m.cls) (hlink : (Cond.methodLink own index y).before args s = true) (hinst : (Cond.instanceMethod y).before args s = true) (hsel : (Cond.selects C y y).before args s = true)
    (hcode : (Cond.code y bytes maxL ret).before args s = true) (hy : y.cls ≠ "java/lang/invoke/MethodHandle" ∧ y.cls ≠ "java/lang/invoke/VarHandle")
    {W9 : Nat} {Pre : Pt → Array Value → Prop} {Post : Pt → Array Value → Option Value → Pt → Prop} {PostX : Pt → Array Value → Addr → Pt → Prop} (hK : vx_Back l R p e below s args y 3 W9 Pre Post PostX)
    {b : Addr} {cellB : Cell} (hcell : T.heap[b]? = some cellB) (hobj : cellB.vm.isStatics = false) (hcls : s.vm.findClass C = some cellB.cls)
    {g : JFrame} (hg : g.method = m) (hsize : g.locals.size = c.maxLocals) {argsL rest : List Value} (hlen : ∀ sig, parseMethodDescriptor y.desc = some sig → argsL.length = sig.parameters.length)
    (hstack : g.stack = argsL.reverse ++ .ref b :: rest) (hW : 2 * g.monitorRoom + (rest.map fun v => v.category).sum ≤ W9) (hdg : decode c.code g.pc = .ok (.invokevirtual index, 3))
    (hpre : ∀ vm₁, s.WarmedH vm₁ → Pre ⟨T.setVm vm₁, locs, cells, slots⟩ (Value.ref b :: argsL).toArray) :
    (∃ (v : Option Value) (vm₁ : Vm) (B : Pt), s.WarmedH vm₁ ∧ Stand p l e R s m args below meth c B.U B.locs B.cells B.slots ∧ Post ⟨T.setVm vm₁, locs, cells, slots⟩ (Value.ref b :: argsL).toArray v B ∧
      ∀ target, Steps p.tables e below (B.U.setTop { g with pc := g.pc + 3, stack := v.toList ++ rest }) target → Steps p.tables e below (T.setTop g) target) ∨
    (∃ (q : Addr) (vm₁ : Vm) (B : Pt), s.WarmedH vm₁ ∧ Stand p l e R s m args below meth c B.U B.locs B.cells B.slots ∧ PostX ⟨T.setVm vm₁, locs, cells, slots⟩ (Value.ref b :: argsL).toArray q B ∧
      Steps p.tables e below (T.setTop g) ((B.U.setTop { g with stack := rest }).pushFrame (.throwing q))) := by
  obtain ⟨mk, methM, hnamed, hmethM, hstM, habM⟩ := Cond.instanceMethod_spec hinst
  obtain ⟨methM', cM, hmethM', -, -, -, -, -, -, hsigM⟩ := Cond.code_spec hnamed hcode
  cases hmethM.symm.trans hmethM'
  obtain ⟨c2, r2, m2, q1, q2, q3, q4, kP, hkP, hkPi⟩ := Cond.selects_spec hsel
  cases hcls.symm.trans q1
  cases (State.methodFound?_of_named hnamed hy).symm.trans q2
  cases hnamed.symm.trans q3
  have hselP : selectMethod e.platform s.vm cellB.cls mk = .method mk := by rw [Launch.admits_selectMethod X.admits]; exact q4
  obtain ⟨vm₁, X₁, hstep₁⟩ := X.invokevirtual hexec hown hlink hnamed hmethM hstM hkP hkPi hy (a := b) (cell := cellB) hcell
    (fun z h => by rw [h] at hobj; cases hobj) hselP hmethM habM hkP hkPi (g := g) hg (argsL := argsL) (rest := rest) (hlen _ hsigM) hstack hdg
  rcases hK m meth c ⟨T.setVm vm₁, locs, cells, slots⟩ { g with stack := rest } (.invokevirtual index) mk (Value.ref b :: argsL).toArray X₁ hg hsize hdg hW (X₁.named hnamed) (hpre vm₁ X₁.warmed) with ⟨v, B, X', hpost, hsteps⟩ | ⟨q, B, X', hpost, hsteps⟩
  · exact Or.inl ⟨v, vm₁, B, X₁.warmed, X', hpost, fun target h => hstep₁ _ fun acts => by rw [doInvoke_state]; exact hsteps.trans h⟩
  · exact Or.inr ⟨q, vm₁, B, X₁.warmed, X', hpost, hstep₁ _ fun acts => by rw [doInvoke_state]; exact hsteps⟩
theorem vx_callS (X : Stand p l e R s m args below meth c T locs cells slots) (hexec : p.tables.exec = Jvm.exec) {own : String} {index : Nat} {y : MethodName} {bytes : ByteArray} {maxL : Nat} {ret : Option FieldType}
    (hown : s.vm.findClass own = some m.cls) (hlink : (Cond.methodLink own index y).before args s = true) (hstat : (Cond.static y).before args s = true) (hinit : (Cond.initialized y.cls).before args s = true)
    (hcode : (Cond.code y bytes maxL ret).before args s = true) (hy : y.cls ≠ "java/lang/invoke/MethodHandle" ∧ y.cls ≠ "java/lang/invoke/VarHandle")
    {W9 : Nat} {Pre : Pt → Array Value → Prop} {Post : Pt → Array Value → Option Value → Pt → Prop} {PostX : Pt → Array Value → Addr → Pt → Prop} (hK : vx_Back l R p e below s args y 3 W9 Pre Post PostX)
    {g : JFrame} (hg : g.method = m) (hsize : g.locals.size = c.maxLocals) {argsL rest : List Value} (hlen : ∀ sig, parseMethodDescriptor y.desc = some sig → argsL.length = sig.parameters.length)
    (hstack : g.stack = argsL.reverse ++ rest) (hW : 2 * g.monitorRoom + (rest.map fun v => v.category).sum ≤ W9) (hdg : decode c.code g.pc = .ok (.invokestatic index, 3))
    (hpre : ∀ vm₁, s.WarmedH vm₁ → Pre ⟨T.setVm vm₁, locs, cells, slots⟩ argsL.toArray) :
    (∃ (v : Option Value) (vm₁ : Vm) (B : Pt), s.WarmedH vm₁ ∧ Stand p l e R s m args below meth c B.U B.locs B.cells B.slots ∧ Post ⟨T.setVm vm₁, locs, cells, slots⟩ argsL.toArray v B ∧
      ∀ target, Steps p.tables e below (B.U.setTop { g with pc := g.pc + 3, stack := v.toList ++ rest }) target → Steps p.tables e below (T.setTop g) target) ∨
    (∃ (q : Addr) (vm₁ : Vm) (B : Pt), s.WarmedH vm₁ ∧ Stand p l e R s m args below meth c B.U B.locs B.cells B.slots ∧ PostX ⟨T.setVm vm₁, locs, cells, slots⟩ argsL.toArray q B ∧
      Steps p.tables e below (T.setTop g) ((B.U.setTop { g with stack := rest }).pushFrame (.throwing q))) := by
  obtain ⟨mk, hnamed⟩ := Cond.code_named hcode
  obtain ⟨methM, cM, hmethM, -, -, -, -, -, -, hsigM⟩ := Cond.code_spec hnamed hcode
  have hstatic : methM.isStatic = true := Cond.static_spec hnamed hmethM hstat
  obtain ⟨kP, hkP, -⟩ := className_of_methodNamed hnamed
  have hinitP : kP.init = .initialized := Cond.initialized_spec (findClass_of_methodNamed hnamed) hkP hinit
  obtain ⟨vm₁, X₁, hstep₁⟩ := X.invokestatic hexec hown hlink hnamed hmethM hstatic hkP hinitP hy (g := g) hg (argsL := argsL) (rest := rest) (hlen _ hsigM) hstack hdg
  rcases hK m meth c ⟨T.setVm vm₁, locs, cells, slots⟩ { g with stack := rest } (.invokestatic index) mk argsL.toArray X₁ hg hsize hdg hW (X₁.named hnamed) (hpre vm₁ X₁.warmed) with ⟨v, B, X', hpost, hsteps⟩ | ⟨q, B, X', hpost, hsteps⟩
  · exact Or.inl ⟨v, vm₁, B, X₁.warmed, X', hpost, fun target h => hstep₁ _ fun acts => by rw [doInvoke_state]; exact hsteps.trans h⟩
  · exact Or.inr ⟨q, vm₁, B, X₁.warmed, X', hpost, hstep₁ _ fun acts => by rw [doInvoke_state]; exact hsteps⟩
end Calls
theorem vx_cls {s : State} {T : State} {vm₁ : Vm} {E : String} {k : ClassId} (hW : s.WarmedH vm₁) (h : (T.setVm vm₁).vm.findClass E = some k) : s.vm.findClass E = some k := by
  have h1 : vm₁.findClass E = some k := h
  rw [hW.alike.findClass] at h1
  exact h1
/-- the method's frame g, with q thrown over it -/
def vx_W (p : Program) (l : Launch) (e : Env) (R : Room) (s : State) (m : MethodId) (args : Array Value) (below : List Frame) (meth : Method) (c : Code) (H : Heap) (locs : List Loc) (cells slots : Nat) (Q : State → Prop) (g : JFrame) (q : Addr) : Prop :=
  ∀ T : State, T.heap = H → Stand p l e R s m args below meth c T locs cells slots → ∃ t, Steps p.tables e below ((T.setTop g).pushFrame (.throwing q)) t ∧ Q t
def vx_Run (p : Program) (l : Launch) (e : Env) (R : Room) (s : State) (m : MethodId) (args : Array Value) (below : List Frame) (meth : Method) (c : Code) (H : Heap) (locs : List Loc) (cells slots mc ms : Nat) (g : JFrame) (rest : List Value) (Qa : State → Outcome → State → Prop) (XC : String → State → State → Prop) (free : Addr → Prop) : Prop :=
  ∀ T : State, T.heap = H → Stand p l e R s m args below meth c T locs cells slots →
    (∃ (v : Option Value) (st₀ t T' : State) (L : List Loc), st₀.heap = H ∧ Stand p l e R s m args below meth c T' (locs ++ L) (cells + mc) (slots + ms) ∧ (∀ q ∈ L, free q.base) ∧ T'.heap = t.heap ∧ T'.vm = t.vm ∧ Qa st₀ (.returned v) t ∧
      Goes p e below T g T' { g with pc := g.pc + 3, stack := v.toList ++ rest }) ∨
    (∃ (q : Addr) (st₀ t T' : State) (L : List Loc) (E : String) (ce : Cell), st₀.heap = H ∧ Stand p l e R s m args below meth c T' (locs ++ L) (cells + mc) (slots + ms) ∧ (∀ z ∈ L, free z.base) ∧ T'.heap = t.heap ∧ T'.vm = t.vm ∧ XC E st₀ t ∧ t.heap[q]? = some ce ∧ ce.vm = .none ∧ s.vm.findClass E = some ce.cls ∧
      Steps p.tables e below (T.setTop g) ((T'.setTop { g with stack := rest }).pushFrame (.throwing q)))
def vx_X {S : Type} (px : S → Prop) (B : String → S → State → Prop) (A : Nat → Prop) : String → State → State → Prop := fun E st t => ∃ u : S, px u ∧ B E u t ∧ va_F A st t
section Runs
variable {p : Program} {l : Launch} {e : Env} {R : Room} {s : State} {m : MethodId} {args : Array Value} {below : List Frame} {meth : Method} {c : Code} {H : Heap} {locs : List Loc} {cells slots : Nat}
variable {y : MethodName} {bytes cc : ByteArray} {maxL nL mc ms n index : Nat} {ret : Option FieldType} {ws : List Cond} {rm : Room} {Pc : Array Value → State → Prop} {Qc : Array Value → State → Outcome → State → Prop} {XC : String → State → State → Prop} {free : Addr → Prop} {Ts : List Cond} {own C : String} {b : Addr} {As rest : List Value} {g : JFrame}
theorem vx_callBack (cb : CallB R s args own index y bytes maxL ret ws rm mc ms n) (hM : vx_Met l y ws rm Pc Qc XC mc ms free) (hbl : FrameBlind Pc) : vx_Back l R p e below s args y 3 8 (PreOf R mc ms Pc) (PostOf Qc mc ms free) (vx_Post XC mc ms free) := by
  obtain ⟨hrc, hrs, hfr, hlo, hws, hcw, -, hini, -⟩ := cb
  exact vx_back (bytes := bytes) (maxL := maxL) (ret := ret) hM hbl hrc hrs hfr hlo hws hcw (fun a' U hW => word_at hW (Or.inl (by first | rfl | simp [Cond.onTables, Cond.keeps, Cond.steady])) hini)
theorem vx_runV (S : CallFix p m c cc nL s args Ts own) (hM : vx_Met l y ws rm Pc Qc XC mc ms free) (cw : CallW R s args own C index y bytes maxL ret ws rm mc ms n) (hp : PreV s H C b Pc As)
    (hg : g.method = m) (hn : As.length = n) (hsize : g.locals.size = nL) (hstack : g.stack = As.reverse ++ .ref b :: rest) (hW : 2 * g.monitorRoom + (rest.map fun v => v.category).sum ≤ 8) (hdg : decode cc g.pc = .ok (.invokevirtual index, 3)) (hf : cells + mc ≤ R.cells ∧ slots + ms ≤ R.slots) :
    vx_Run p l e R s m args below meth c H locs cells slots mc ms g rest (Qc (Value.ref b :: As).toArray) XC free := by
  have hK : vx_Back l R p e below s args y 3 8 (PreOf R mc ms Pc) (PostOf Qc mc ms free) (vx_Post XC mc ms free) := vx_callBack cw.1 hM hp.1
  obtain ⟨⟨-, -, -, -, -, -, hcode, -, hy, hlen, hl⟩, hin, hse⟩ := cw
  obtain ⟨hx, hb, hml, ho, -⟩ := S
  obtain ⟨-, ⟨cellB, hcB, hoB, hclB⟩, hPc⟩ := hp
  intro T hT X
  rcases vx_callV X hx (C := C) (bytes := bytes) (maxL := maxL) (ret := ret) ho hl hin hse hcode hy hK (by rw [hT]; exact hcB) hoB hclB hg (hsize.trans hml.symm) (argsL := As) (rest := rest) (fun sig h => hn.trans (hlen sig h)) hstack hW (by rw [hb]; exact hdg)
    (fun vm₁ hW₁ => ⟨hf.1, hf.2, hPc (T.setVm vm₁) hT hW₁⟩) with ⟨v, vm₁, ⟨U', l2, c2, s2⟩, hW₁, X', ⟨g', mk, t, L, e1, e2, hq, h1, hL, h2, h3⟩, st⟩ | ⟨q, vm₁, ⟨U', l2, c2, s2⟩, hW₁, X', ⟨g', mk, t, L, E, ce, e1, e2, hq, hce, hcv, hcl, h1, hL, h2, h3⟩, st⟩
  · dsimp only [Pt.U, Pt.locs, Pt.cells, Pt.slots] at X' e1 e2 h1 h2 h3 st
    subst h1; subst h2; subst h3
    exact Or.inl ⟨v, (T.setVm vm₁).calling g' mk (Value.ref b :: As).toArray, t, U', L, hT, X', hL, e1, e2, hq, st⟩
  · dsimp only [Pt.U, Pt.locs, Pt.cells, Pt.slots] at X' e1 e2 h1 h2 h3 st hcl
    subst h1; subst h2; subst h3
    exact Or.inr ⟨q, (T.setVm vm₁).calling g' mk (Value.ref b :: As).toArray, t, U', L, E, ce, hT, X', hL, e1, e2, hq, hce, hcv, vx_cls hW₁ hcl, st⟩
theorem vx_runS (S : CallFix p m c cc nL s args Ts own) (hM : vx_Met l y ws rm Pc Qc XC mc ms free) (cw : CallB R s args own index y bytes maxL ret ws rm mc ms n ∧ (Cond.static y).before args s = true) (hp : PreS s H Pc As)
    (hg : g.method = m) (hn : As.length = n) (hsize : g.locals.size = nL) (hstack : g.stack = As.reverse ++ rest) (hW : 2 * g.monitorRoom + (rest.map fun v => v.category).sum ≤ 8) (hdg : decode cc g.pc = .ok (.invokestatic index, 3)) (hf : cells + mc ≤ R.cells ∧ slots + ms ≤ R.slots) :
    vx_Run p l e R s m args below meth c H locs cells slots mc ms g rest (Qc As.toArray) XC free := by
  have hK : vx_Back l R p e below s args y 3 8 (PreOf R mc ms Pc) (PostOf Qc mc ms free) (vx_Post XC mc ms free) := vx_callBack cw.1 hM hp.1
  obtain ⟨⟨-, -, -, -, -, -, hcode, hini, hy, hlen, hl⟩, hstt⟩ := cw
  obtain ⟨hx, hb, hml, ho, -⟩ := S
  intro T hT X
  rcases vx_callS X hx (bytes := bytes) (maxL := maxL) (ret := ret) ho hl hstt hini hcode hy hK hg (hsize.trans hml.symm) (argsL := As) (rest := rest) (fun sig h => hn.trans (hlen sig h)) hstack hW (by rw [hb]; exact hdg)
    (fun vm₁ hW₁ => ⟨hf.1, hf.2, hp.2 (T.setVm vm₁) hT hW₁⟩) with ⟨v, vm₁, ⟨U', l2, c2, s2⟩, hW₁, X', ⟨g', mk, t, L, e1, e2, hq, h1, hL, h2, h3⟩, st⟩ | ⟨q, vm₁, ⟨U', l2, c2, s2⟩, hW₁, X', ⟨g', mk, t, L, E, ce, e1, e2, hq, hce, hcv, hcl, h1, hL, h2, h3⟩, st⟩
  · dsimp only [Pt.U, Pt.locs, Pt.cells, Pt.slots] at X' e1 e2 h1 h2 h3 st
    subst h1; subst h2; subst h3
    exact Or.inl ⟨v, (T.setVm vm₁).calling g' mk As.toArray, t, U', L, hT, X', hL, e1, e2, hq, st⟩
  · dsimp only [Pt.U, Pt.locs, Pt.cells, Pt.slots] at X' e1 e2 h1 h2 h3 st hcl
    subst h1; subst h2; subst h3
    exact Or.inr ⟨q, (T.setVm vm₁).calling g' mk As.toArray, t, U', L, E, ce, hT, X', hL, e1, e2, hq, hce, hcv, vx_cls hW₁ hcl, st⟩
end Runs
section Rows
variable {p : Program} {l : Launch} {e : Env} {R : Room} {s : State} {m : MethodId} {args : Array Value} {below : List Frame} {meth : Method} {c : Code} {H : Heap} {locs : List Loc} {cells slots : Nat} {Q : State → Prop}
variable {mc ms : Nat} {free : Addr → Prop} {A0 A1 : Nat → Prop} {H0 : Heap} {a : Array Value} {pc : Nat} {ls : Array Slot} {st0 rest : List Value}
theorem vx_keep {st₀ t T' : State} {L : List Loc} (h0 : st₀.heap = H) (e1 : T'.heap = t.heap) (hS : va_S A0 H0 H locs) (hA : ∀ q, q < H.size → A1 q → A0 q) (hf : ∀ q, free q → A0 q) (hL : ∀ q ∈ L, free q.base) (hF : va_F A1 st₀ t) :
    H.size ≤ T'.heap.size ∧ (∀ q : Nat, q < H.size → ¬ A1 q → T'.heap[q]? = H[q]?) ∧ va_S A0 H0 T'.heap (locs ++ L) := by
  obtain ⟨hz, hk⟩ := hF
  rw [h0] at hz hk
  exact ⟨by rw [e1]; exact hz, fun q h1 h2 => by rw [e1]; exact hk q h1 h2,
    ⟨Nat.le_trans hS.1 (by rw [e1]; exact hz), fun q h1 h2 => by rw [e1, hk q (Nat.lt_of_lt_of_le h1 hS.1) (fun z => h2 (hA q (Nat.lt_of_lt_of_le h1 hS.1) z))]; exact hS.2.1 q h1 h2, fun q hq => by
      rcases List.mem_append.mp hq with h | h
      · exact hS.2.2 q h
      · exact hf _ (hL q h)⟩⟩
theorem vx_calli {S SX : Type} {post : Int32 → S → Prop} {px : SX → Prop} {B : S → State → Prop} {BX : String → SX → State → Prop} {AX : Nat → Prop} (hr : vx_Run p l e R s m args below meth c H locs cells slots mc ms (F0 m pc ls st0) rest (va_Qi post B A1 a) (vx_X px BX AX) free) (hS : va_S A0 H0 H locs) (hA : ∀ q, q < H.size → A1 q → A0 q) (hf : ∀ q, free q → A0 q) (hAX : ∀ q, q < H.size → AX q → A0 q)
    (kx : ∀ (E : String) (ce : Cell) (q9 : Addr) (u : SX) (t : State) (H1 : Heap) (locs1 : List Loc), t.heap = H1 → s.vm.Alike t.vm → px u → BX E u t → H.size ≤ H1.size → (∀ q : Nat, q < H.size → ¬ AX q → H1[q]? = H[q]?) → va_S A0 H0 H1 locs1 → H1[q9]? = some ce → ce.vm = .none → s.vm.findClass E = some ce.cls → vx_W p l e R s m args below meth c H1 locs1 (cells + mc) (slots + ms) Q (F0 m pc ls rest) q9)
    (kk : ∀ (r : Int32) (u : S) (t : State) (H1 : Heap) (locs1 : List Loc), t.heap = H1 → s.vm.Alike t.vm → post r u → B u t → H.size ≤ H1.size → (∀ q : Nat, q < H.size → ¬ A1 q → H1[q]? = H[q]?) → va_S A0 H0 H1 locs1 → W p l e R s m args below meth c H1 locs1 (cells + mc) (slots + ms) Q (F0 m (pc + 3) ls (.int r :: rest))) : W p l e R s m args below meth c H locs cells slots Q (F0 m pc ls st0) := by
  intro T hT X
  rcases hr T hT X with ⟨v, st₀, t, T', L, h0, X', hL, e1, e2, ⟨⟨r, u, hv, hp, hb⟩, hF⟩, st⟩ | ⟨q, st₀, t, T', L, E, ce, h0, X', hL, e1, e2, ⟨u, hp, hb, hF⟩, hce, hcv, hcl, st⟩
  · cases hv
    obtain ⟨k1, k2, k3⟩ := vx_keep h0 e1 hS hA hf hL hF
    obtain ⟨t2, a1, b1⟩ := kk r u t T'.heap (locs ++ L) e1.symm (by rw [← e2]; exact X'.warmed.alike) hp hb k1 k2 k3 T' rfl X'
    exact ⟨t2, st t2 a1, b1⟩
  · obtain ⟨k1, k2, k3⟩ := vx_keep h0 e1 hS hAX hf hL hF
    obtain ⟨t2, a1, b1⟩ := kx E ce q u t T'.heap (locs ++ L) e1.symm (by rw [← e2]; exact X'.warmed.alike) hp hb k1 k2 k3 (by rw [e1]; exact hce) hcv hcl T' rfl X'
    exact ⟨t2, st.trans a1, b1⟩
theorem vx_calll {S SX : Type} {post : Int64 → S → Prop} {px : SX → Prop} {B : S → State → Prop} {BX : String → SX → State → Prop} {AX : Nat → Prop} (hr : vx_Run p l e R s m args below meth c H locs cells slots mc ms (F0 m pc ls st0) rest (va_Ql post B A1 a) (vx_X px BX AX) free) (hS : va_S A0 H0 H locs) (hA : ∀ q, q < H.size → A1 q → A0 q) (hf : ∀ q, free q → A0 q) (hAX : ∀ q, q < H.size → AX q → A0 q)
    (kx : ∀ (E : String) (ce : Cell) (q9 : Addr) (u : SX) (t : State) (H1 : Heap) (locs1 : List Loc), t.heap = H1 → s.vm.Alike t.vm → px u → BX E u t → H.size ≤ H1.size → (∀ q : Nat, q < H.size → ¬ AX q → H1[q]? = H[q]?) → va_S A0 H0 H1 locs1 → H1[q9]? = some ce → ce.vm = .none → s.vm.findClass E = some ce.cls → vx_W p l e R s m args below meth c H1 locs1 (cells + mc) (slots + ms) Q (F0 m pc ls rest) q9)
    (kk : ∀ (r : Int64) (u : S) (t : State) (H1 : Heap) (locs1 : List Loc), t.heap = H1 → s.vm.Alike t.vm → post r u → B u t → H.size ≤ H1.size → (∀ q : Nat, q < H.size → ¬ A1 q → H1[q]? = H[q]?) → va_S A0 H0 H1 locs1 → W p l e R s m args below meth c H1 locs1 (cells + mc) (slots + ms) Q (F0 m (pc + 3) ls (.long r :: rest))) : W p l e R s m args below meth c H locs cells slots Q (F0 m pc ls st0) := by
  intro T hT X
  rcases hr T hT X with ⟨v, st₀, t, T', L, h0, X', hL, e1, e2, ⟨⟨r, u, hv, hp, hb⟩, hF⟩, st⟩ | ⟨q, st₀, t, T', L, E, ce, h0, X', hL, e1, e2, ⟨u, hp, hb, hF⟩, hce, hcv, hcl, st⟩
  · cases hv
    obtain ⟨k1, k2, k3⟩ := vx_keep h0 e1 hS hA hf hL hF
    obtain ⟨t2, a1, b1⟩ := kk r u t T'.heap (locs ++ L) e1.symm (by rw [← e2]; exact X'.warmed.alike) hp hb k1 k2 k3 T' rfl X'
    exact ⟨t2, st t2 a1, b1⟩
  · obtain ⟨k1, k2, k3⟩ := vx_keep h0 e1 hS hAX hf hL hF
    obtain ⟨t2, a1, b1⟩ := kx E ce q u t T'.heap (locs ++ L) e1.symm (by rw [← e2]; exact X'.warmed.alike) hp hb k1 k2 k3 (by rw [e1]; exact hce) hcv hcl T' rfl X'
    exact ⟨t2, st.trans a1, b1⟩
theorem vx_callf {S SX : Type} {post : UInt32 → S → Prop} {px : SX → Prop} {B : S → State → Prop} {BX : String → SX → State → Prop} {AX : Nat → Prop} (hr : vx_Run p l e R s m args below meth c H locs cells slots mc ms (F0 m pc ls st0) rest (va_Qf post B A1 a) (vx_X px BX AX) free) (hS : va_S A0 H0 H locs) (hA : ∀ q, q < H.size → A1 q → A0 q) (hf : ∀ q, free q → A0 q) (hAX : ∀ q, q < H.size → AX q → A0 q)
    (kx : ∀ (E : String) (ce : Cell) (q9 : Addr) (u : SX) (t : State) (H1 : Heap) (locs1 : List Loc), t.heap = H1 → s.vm.Alike t.vm → px u → BX E u t → H.size ≤ H1.size → (∀ q : Nat, q < H.size → ¬ AX q → H1[q]? = H[q]?) → va_S A0 H0 H1 locs1 → H1[q9]? = some ce → ce.vm = .none → s.vm.findClass E = some ce.cls → vx_W p l e R s m args below meth c H1 locs1 (cells + mc) (slots + ms) Q (F0 m pc ls rest) q9)
    (kk : ∀ (r : UInt32) (u : S) (t : State) (H1 : Heap) (locs1 : List Loc), t.heap = H1 → s.vm.Alike t.vm → post r u → B u t → H.size ≤ H1.size → (∀ q : Nat, q < H.size → ¬ A1 q → H1[q]? = H[q]?) → va_S A0 H0 H1 locs1 → W p l e R s m args below meth c H1 locs1 (cells + mc) (slots + ms) Q (F0 m (pc + 3) ls (.float r :: rest))) : W p l e R s m args below meth c H locs cells slots Q (F0 m pc ls st0) := by
  intro T hT X
  rcases hr T hT X with ⟨v, st₀, t, T', L, h0, X', hL, e1, e2, ⟨⟨r, u, hv, hp, hb⟩, hF⟩, st⟩ | ⟨q, st₀, t, T', L, E, ce, h0, X', hL, e1, e2, ⟨u, hp, hb, hF⟩, hce, hcv, hcl, st⟩
  · cases hv
    obtain ⟨k1, k2, k3⟩ := vx_keep h0 e1 hS hA hf hL hF
    obtain ⟨t2, a1, b1⟩ := kk r u t T'.heap (locs ++ L) e1.symm (by rw [← e2]; exact X'.warmed.alike) hp hb k1 k2 k3 T' rfl X'
    exact ⟨t2, st t2 a1, b1⟩
  · obtain ⟨k1, k2, k3⟩ := vx_keep h0 e1 hS hAX hf hL hF
    obtain ⟨t2, a1, b1⟩ := kx E ce q u t T'.heap (locs ++ L) e1.symm (by rw [← e2]; exact X'.warmed.alike) hp hb k1 k2 k3 (by rw [e1]; exact hce) hcv hcl T' rfl X'
    exact ⟨t2, st.trans a1, b1⟩
theorem vx_calld {S SX : Type} {post : UInt64 → S → Prop} {px : SX → Prop} {B : S → State → Prop} {BX : String → SX → State → Prop} {AX : Nat → Prop} (hr : vx_Run p l e R s m args below meth c H locs cells slots mc ms (F0 m pc ls st0) rest (va_Qd post B A1 a) (vx_X px BX AX) free) (hS : va_S A0 H0 H locs) (hA : ∀ q, q < H.size → A1 q → A0 q) (hf : ∀ q, free q → A0 q) (hAX : ∀ q, q < H.size → AX q → A0 q)
    (kx : ∀ (E : String) (ce : Cell) (q9 : Addr) (u : SX) (t : State) (H1 : Heap) (locs1 : List Loc), t.heap = H1 → s.vm.Alike t.vm → px u → BX E u t → H.size ≤ H1.size → (∀ q : Nat, q < H.size → ¬ AX q → H1[q]? = H[q]?) → va_S A0 H0 H1 locs1 → H1[q9]? = some ce → ce.vm = .none → s.vm.findClass E = some ce.cls → vx_W p l e R s m args below meth c H1 locs1 (cells + mc) (slots + ms) Q (F0 m pc ls rest) q9)
    (kk : ∀ (r : UInt64) (u : S) (t : State) (H1 : Heap) (locs1 : List Loc), t.heap = H1 → s.vm.Alike t.vm → post r u → B u t → H.size ≤ H1.size → (∀ q : Nat, q < H.size → ¬ A1 q → H1[q]? = H[q]?) → va_S A0 H0 H1 locs1 → W p l e R s m args below meth c H1 locs1 (cells + mc) (slots + ms) Q (F0 m (pc + 3) ls (.double r :: rest))) : W p l e R s m args below meth c H locs cells slots Q (F0 m pc ls st0) := by
  intro T hT X
  rcases hr T hT X with ⟨v, st₀, t, T', L, h0, X', hL, e1, e2, ⟨⟨r, u, hv, hp, hb⟩, hF⟩, st⟩ | ⟨q, st₀, t, T', L, E, ce, h0, X', hL, e1, e2, ⟨u, hp, hb, hF⟩, hce, hcv, hcl, st⟩
  · cases hv
    obtain ⟨k1, k2, k3⟩ := vx_keep h0 e1 hS hA hf hL hF
    obtain ⟨t2, a1, b1⟩ := kk r u t T'.heap (locs ++ L) e1.symm (by rw [← e2]; exact X'.warmed.alike) hp hb k1 k2 k3 T' rfl X'
    exact ⟨t2, st t2 a1, b1⟩
  · obtain ⟨k1, k2, k3⟩ := vx_keep h0 e1 hS hAX hf hL hF
    obtain ⟨t2, a1, b1⟩ := kx E ce q u t T'.heap (locs ++ L) e1.symm (by rw [← e2]; exact X'.warmed.alike) hp hb k1 k2 k3 (by rw [e1]; exact hce) hcv hcl T' rfl X'
    exact ⟨t2, st.trans a1, b1⟩
theorem vx_callv {S SX : Type} {post : S → Prop} {px : SX → Prop} {B : S → State → Prop} {BX : String → SX → State → Prop} {AX : Nat → Prop} (hr : vx_Run p l e R s m args below meth c H locs cells slots mc ms (F0 m pc ls st0) rest (va_Qv post B A1 a) (vx_X px BX AX) free) (hS : va_S A0 H0 H locs) (hA : ∀ q, q < H.size → A1 q → A0 q) (hf : ∀ q, free q → A0 q) (hAX : ∀ q, q < H.size → AX q → A0 q)
    (kx : ∀ (E : String) (ce : Cell) (q9 : Addr) (u : SX) (t : State) (H1 : Heap) (locs1 : List Loc), t.heap = H1 → s.vm.Alike t.vm → px u → BX E u t → H.size ≤ H1.size → (∀ q : Nat, q < H.size → ¬ AX q → H1[q]? = H[q]?) → va_S A0 H0 H1 locs1 → H1[q9]? = some ce → ce.vm = .none → s.vm.findClass E = some ce.cls → vx_W p l e R s m args below meth c H1 locs1 (cells + mc) (slots + ms) Q (F0 m pc ls rest) q9)
    (kk : ∀ (u : S) (t : State) (H1 : Heap) (locs1 : List Loc), t.heap = H1 → s.vm.Alike t.vm → post u → B u t → H.size ≤ H1.size → (∀ q : Nat, q < H.size → ¬ A1 q → H1[q]? = H[q]?) → va_S A0 H0 H1 locs1 → W p l e R s m args below meth c H1 locs1 (cells + mc) (slots + ms) Q (F0 m (pc + 3) ls (rest))) : W p l e R s m args below meth c H locs cells slots Q (F0 m pc ls st0) := by
  intro T hT X
  rcases hr T hT X with ⟨v, st₀, t, T', L, h0, X', hL, e1, e2, ⟨⟨u, hv, hp, hb⟩, hF⟩, st⟩ | ⟨q, st₀, t, T', L, E, ce, h0, X', hL, e1, e2, ⟨u, hp, hb, hF⟩, hce, hcv, hcl, st⟩
  · cases hv
    obtain ⟨k1, k2, k3⟩ := vx_keep h0 e1 hS hA hf hL hF
    obtain ⟨t2, a1, b1⟩ := kk u t T'.heap (locs ++ L) e1.symm (by rw [← e2]; exact X'.warmed.alike) hp hb k1 k2 k3 T' rfl X'
    exact ⟨t2, st t2 a1, b1⟩
  · obtain ⟨k1, k2, k3⟩ := vx_keep h0 e1 hS hAX hf hL hF
    obtain ⟨t2, a1, b1⟩ := kx E ce q u t T'.heap (locs ++ L) e1.symm (by rw [← e2]; exact X'.warmed.alike) hp hb k1 k2 k3 (by rw [e1]; exact hce) hcv hcl T' rfl X'
    exact ⟨t2, st.trans a1, b1⟩
/-- caught by the row x of this method's table; the rows ahead don't take it -/
theorem vx_catch {own name : String} {E : String} {ce : Cell} {q : Addr} (hown : s.vm.findClass own = some m.cls) (pre : List ExceptionTableEntry) (x : ExceptionTableEntry) (suf : List ExceptionTableEntry) (hsplit : c.exceptionTable.toList = pre ++ x :: suf)
    (hpass : ∀ z ∈ pre, covers z pc = false ∨ (z.catchType ≠ 0 ∧ ∃ nm : String, (Cond.classLink own z.catchType nm).before args s = true ∧ va_Nc E nm s)) (hx : covers x pc = true) (h0 : x.catchType ≠ 0)
    (hlink : (Cond.classLink own x.catchType name).before args s = true) (hcast : (Cond.castable E name).before args s = true) (hcell : H[q]? = some ce) (hv : ce.vm = .none) (hcl : s.vm.findClass E = some ce.cls)
    (kk : W p l e R s m args below meth c H locs cells slots Q (F0 m x.handlerPc ls [.ref q])) : vx_W p l e R s m args below meth c H locs cells slots Q (F0 m pc ls rest) q := by
  intro T hT X
  have hpl : e.platform.magicAccessors = ({} : Platform).magicAccessors := by rw [X.admits.platform]
  obtain ⟨c3, c4, hc3, hc4, hasg⟩ := Cond.castable_spec hcast
  cases Option.some.inj (hc3.symm.trans hcl)
  obtain ⟨c5, hc5, hcl5⟩ := Cond.classLink_spec hown hlink e.platform hpl
  cases Option.some.inj (hc4.symm.trans hc5)
  obtain ⟨vm', X', st⟩ := X.thenCaughtThrough q (g := F0 m pc ls rest) rfl (Steps.refl _) (by rw [hT]; exact hcell) (by rw [hv]; rfl) (by obtain ⟨k9, h9, -⟩ := Vm.findClass_spec hcl; exact ⟨k9, h9⟩) pre x suf hsplit
    (fun z hz => by
      rcases hpass z hz with h | ⟨hz0, nm, hl1, hn1⟩
      · exact Or.inl h
      · obtain ⟨c6, hc6, hcl6⟩ := Cond.classLink_spec hown hl1 e.platform hpl
        obtain ⟨a8, b8, h1, h2, h3⟩ := hn1
        cases Option.some.inj (h1.symm.trans hcl)
        cases Option.some.inj (h2.symm.trans hc6)
        exact Or.inr ⟨hz0, _, hcl6, h3⟩) hx (Or.inr ⟨h0, c4, hcl5, hasg⟩)
  obtain ⟨t, a1, b1⟩ := kk (T.setVm vm') hT X'
  exact ⟨t, st.trans a1, b1⟩
end Rows
section Ends
variable {p : Program} {l : Launch} {e : Env} {R : Room} {s : State} {m : MethodId} {args : Array Value} {below : List Frame} {meth : Method} {c : Code} {H : Heap} {locs : List Loc} {cells slots : Nat} {Q : State → Prop}
variable {mc ms : Nat} {free : Addr → Prop} {A0 A1 : Nat → Prop} {H0 : Heap} {a : Array Value} {ls : Array Slot} {st0 rest : List Value}
variable {Qc : Array Value → State → Outcome → State → Prop} {XC : String → State → State → Prop}
/-- what a body that may throw owes at its end -/
def vx_MQ (below : List Frame) (Qc : Array Value → State → Outcome → State → Prop) (XC : String → State → State → Prop) (a : Array Value) (s : State) (mc ms : Nat) (free : Addr → Prop) : State → Prop := fun t =>
  ∃ o, t.status = .running ∧ Ended t below o ∧ vx_Q Qc XC mc ms free a s o t
theorem vx_ret {g : JFrame} {mc ms : Nat} (k : W p l e R s m args below meth c H locs cells slots (MQ below Qc args s mc ms free) g) : W p l e R s m args below meth c H locs cells slots (vx_MQ below Qc XC args s mc ms free) g := by
  intro T hT X
  obtain ⟨t, a1, o, b1, b2, b3, b4⟩ := k T hT X
  exact ⟨t, a1, o, b1, b2, Or.inl ⟨b3, b4⟩⟩
/-- not caught here: it goes on to the caller -/
theorem vx_widen {g : JFrame} {q : Addr} {k n : Nat} (h1 : cells ≤ k) (h2 : slots ≤ n) (kk : vx_W p l e R s m args below meth c H locs k n Q g q) : vx_W p l e R s m args below meth c H locs cells slots Q g q := fun T hT X => kk T hT (stand_widen X h1 h2)
theorem vx_out {pc : Nat} {E : String} {ce : Cell} {q : Addr} {mc ms : Nat} (hout : ∀ x ∈ c.exceptionTable.toList, covers x pc = false) (hlocks : meth.locks = false) (hcell : H[q]? = some ce) (hv : ce.vm = .none) (hcl : s.vm.findClass E = some ce.cls)
    (hx : ∀ t : State, t.heap = H → s.vm.Alike t.vm → XC E s t) (hf : ∀ z ∈ locs, free z.base) (hc : cells ≤ mc) (hs : slots ≤ ms) :
    vx_W p l e R s m args below meth c H locs cells slots (vx_MQ below Qc XC args s mc ms free) (F0 m pc ls rest) q := by
  intro T hT X
  obtain ⟨st1, hrun, hend, hW, hsm⟩ := X.leaveThrown q (g := F0 m pc ls rest) rfl rfl rfl hout hlocks
  have hcell9 : (T.setFrames (.throwing q :: below)).heap[q]? = some ce := by
    show T.heap[q]? = some ce
    rw [hT]; exact hcell
  exact ⟨_, st1, .threw q, hrun, hend, Or.inr ⟨q, rfl, E, ce, locs, hx _ hT hW.alike, hcell9, hv, hcl, hW, hsm.mono hc hs, hf⟩⟩
theorem vx_frame {U : State} {k n : Nat} (h : s.sameButNew ({ U with vm := s.vm } : State) locs k n) : s.heap.size ≤ U.heap.size ∧ ∀ q : Nat, q < s.heap.size → (∀ z ∈ locs, z.base ≠ q) → U.heap[q]? = s.heap[q]? := by
  obtain ⟨-, h2, -, -, -, h6⟩ := h
  refine ⟨h2, fun q hq hz => ?_⟩
  obtain ⟨c9, e1, e2, e3, e4⟩ := h6 q _ (Array.getElem?_eq_getElem hq)
  have hs : c9.slots = (s.heap[q]).slots := Array.ext_getElem? fun i => e4 i fun hm => hz _ hm rfl
  have h9 : c9 = s.heap[q] := by
    rw [hs] at e2
    exact e2
  have e5 : U.heap[q]? = some c9 := e1
  rw [e5, h9, Array.getElem?_eq_getElem hq]
/-- the words of a throw but the four that speak of the heap -/
def vx_no (w : Cond) : Bool := decide (w ≠ .isRef (.static Bundle.tN "UNASSIGNED_STACK" Bundle.steD)) && decide (w ≠ .isRef (.static Bundle.tN "SUPPRESSED_SENTINEL" Bundle.listD)) && decide (w ≠ .laysStatic Bundle.tN "UNASSIGNED_STACK" Bundle.steD) && decide (w ≠ .laysStatic Bundle.tN "SUPPRESSED_SENTINEL" Bundle.listD)
def vx_at0 (own : String) (ic : Nat) (X : String) (names : List String) : List Cond := (Bundle.ownAtoms0 own ic X names).filter vx_no
def vx_atS (own : String) (ic : Nat) (X : String) (names : List String) : List Cond := (Bundle.ownAtoms own ic X names).filter vx_no
/-- a word that the tables alone decide, or a good one -/
def vx_ot (w : Cond) : Bool := w.onTables || goodWord w
theorem vx_ot_at {args a' : Array Value} {s U : State} {w : Cond} (hW : s.WarmedH U.vm) (hvm : s.vm = U.vm) (hg : vx_ot w = true) (h : w.before args s = true) : w.before a' U = true := by
  simp only [vx_ot, Bool.or_eq_true] at hg
  rcases hg with hg | hg
  · exact va_tabs hg hvm h
  · exact word_at hW (good_of_word hg) h
/-- a list's words: the good ones out of the method's own list, the others by premises of their own -/
theorem vx_hat {args : Array Value} {s : State} {L B : List Cond} (h1 : ∀ w ∈ L.filter goodWord, w.before args s = true) (h2 : ∀ w ∈ L.filter (fun w => !goodWord w), w ∈ B) (h3 : ∀ w ∈ B, w.before args s = true) : ∀ w ∈ L, w.before args s = true := by
  intro w hw
  by_cases g : goodWord w = true
  · exact h1 w (List.mem_filter.mpr ⟨hw, g⟩)
  · refine h3 w (h2 w (List.mem_filter.mpr ⟨hw, ?_⟩))
    show (!goodWord w) = true
    cases hgw : goodWord w
    · rfl
    · exact absurd hgw g
theorem vx_c {args : Array Value} {s : State} {w : Cond} {B : List Cond} (h : w.before args s = true) (t : ∀ w ∈ B, w.before args s = true) : ∀ w' ∈ w :: B, w'.before args s = true := fun w' h' => (List.mem_cons.mp h').elim (fun e => by rw [e]; exact h) (t w')
theorem vx_n {args : Array Value} {s : State} : ∀ w ∈ ([] : List Cond), w.before args s = true := fun _ h => nomatch h
theorem vx_own {args : Array Value} {s : State} {L : List Cond} (h1 : ∀ w ∈ L.filter vx_no, w.before args s = true)
    (hU : (Cond.isRef (.static Bundle.tN "UNASSIGNED_STACK" Bundle.steD)).before args s = true) (hN : (Cond.isRef (.static Bundle.tN "SUPPRESSED_SENTINEL" Bundle.listD)).before args s = true)
    (lU : (Cond.laysStatic Bundle.tN "UNASSIGNED_STACK" Bundle.steD).before args s = true) (lN : (Cond.laysStatic Bundle.tN "SUPPRESSED_SENTINEL" Bundle.listD).before args s = true) : ∀ w ∈ L, w.before args s = true := by
  intro w hw
  by_cases e1 : w = .isRef (.static Bundle.tN "UNASSIGNED_STACK" Bundle.steD)
  · rw [e1]; exact hU
  · by_cases e2 : w = .isRef (.static Bundle.tN "SUPPRESSED_SENTINEL" Bundle.listD)
    · rw [e2]; exact hN
    · by_cases e3 : w = .laysStatic Bundle.tN "UNASSIGNED_STACK" Bundle.steD
      · rw [e3]; exact lU
      · by_cases e4 : w = .laysStatic Bundle.tN "SUPPRESSED_SENTINEL" Bundle.listD
        · rw [e4]; exact lN
        · exact h1 w (List.mem_filter.mpr ⟨hw, by unfold vx_no; rw [decide_eq_true e1, decide_eq_true e2, decide_eq_true e3, decide_eq_true e4]; rfl⟩)
/-- where a static field lies, its class's statics cell in H -/
def vx_L (C n d : String) (A : Nat → Prop) (U : State) (H : Heap) : Prop := ∃ (c : ClassId) (k : Class) (i : Nat) (f : Field) (a : Nat) (cell : Cell), U.vm.findClass C = some c ∧ U.fieldFound? C n d = some (c, k, i, f) ∧ f.isStatic = true ∧ k.statics = some a ∧ H[a]? = some cell ∧ cell.vm.isStatics = true ∧ cell.cls = c ∧ f.slot < cell.slots.size ∧ k.staticTypes[f.slot]? = some f.type ∧ ¬ A a
theorem vx_L.moved {C n d : String} {A : Nat → Prop} {u U : State} {H : Heap} (hvm : u.vm.Alike U.vm) (h : vx_L C n d A u H) : vx_L C n d A U H := by
  obtain ⟨c, k, i, f, a, cell, h1, h2, h3, h4, h5, h6, h7, h8, h9, h10⟩ := h
  obtain ⟨k', hi', he⟩ := State.fieldFound?_setVm hvm h2
  exact ⟨c, k', i, f, a, cell, by rw [hvm.findClass]; exact h1, hi', h3, by rw [he]; exact h4, h5, h6, h7, h8, by rw [he]; exact h9, h10⟩
theorem vx_L.kept {C n d : String} {A : Nat → Prop} {U : State} {H H1 : Heap} (h : vx_L C n d A U H) (hq : ∀ a : Nat, a < H.size → ¬ A a → H1[a]? = H[a]?) : vx_L C n d A U H1 := by
  obtain ⟨c, k, i, f, a, cell, h1, h2, h3, h4, h5, h6, h7, h8, h9, h10⟩ := h
  exact ⟨c, k, i, f, a, cell, h1, h2, h3, h4, by rw [hq a (Array.getElem?_eq_some_iff.mp h5).1 h10]; exact h5, h6, h7, h8, h9, h10⟩
theorem vx_L.narrow {C n d : String} {A B : Nat → Prop} {U : State} {H : Heap} (h : vx_L C n d A U H) (hAB : ∀ q, B q → A q) : vx_L C n d B U H := by
  obtain ⟨c, k, i, f, a, cell, h1, h2, h3, h4, h5, h6, h7, h8, h9, h10⟩ := h
  exact ⟨c, k, i, f, a, cell, h1, h2, h3, h4, h5, h6, h7, h8, h9, fun z => h10 (hAB _ z)⟩
theorem vx_L.word {C n d : String} {A : Nat → Prop} {s : State} {args : Array Value} (h : vx_L C n d A s s.heap) : (Cond.laysStatic C n d).before args s = true := by
  obtain ⟨c, k, i, f, a, cell, h1, h2, h3, h4, h5, h6, h7, h8, h9, -⟩ := h
  show (Cond.laysStatic C n d).holds args s none s [] = true
  exact Cond.laysStatic_of h1 h2 h3 h4 h5 h6 h7 h8 h9
/-- .. and what it holds: null or some reference -/
def vx_Zq (C n d : String) (A : Nat → Prop) (U : State) (H : Heap) : Prop := va_Zq C n d A U H ∧ vx_L C n d A U H
theorem vx_Zq.moved {C n d : String} {A : Nat → Prop} {u U : State} {H : Heap} (hvm : u.vm.Alike U.vm) (h : vx_Zq C n d A u H) : vx_Zq C n d A U H := ⟨va_Zq.moved hvm h.1, vx_L.moved hvm h.2⟩
theorem vx_Zq.kept {C n d : String} {A : Nat → Prop} {U : State} {H H1 : Heap} (h : vx_Zq C n d A U H) (hq : ∀ a : Nat, a < H.size → ¬ A a → H1[a]? = H[a]?) : vx_Zq C n d A U H1 := ⟨va_Zq.kept h.1 hq, vx_L.kept h.2 hq⟩
theorem vx_Zq.narrow {C n d : String} {A B : Nat → Prop} {U : State} {H : Heap} (h : vx_Zq C n d A U H) (hAB : ∀ q, B q → A q) : vx_Zq C n d B U H := ⟨va_Zq.narrow h.1 hAB, vx_L.narrow h.2 hAB⟩
theorem vx_Zqof {args : Array Value} {s : State} {C n d : String} {A : Nat → Prop} (hl : (Cond.laysStatic C n d).before args s = true) (hini : (Cond.initialized C).before args s = true) (h : (Cond.isRef (.static C n d)).before args s = true) (hA : ∀ a : Nat, a < s.heap.size → ¬ A a) : vx_Zq C n d A s s.heap := by
  refine ⟨va_Zqof hl hini h hA, ?_⟩
  obtain ⟨c, k, i, f, a, cell, h1, h2, h3, h4, h5, h6, h7, h8, h9⟩ := Cond.laysStatic_spec hl
  exact ⟨c, k, i, f, a, cell, h1, h2, h3, h4, h5, h6, h7, h8, h9, hA a (Array.getElem?_eq_some_iff.mp h5).1⟩
theorem vx_isRef {C n d : String} {v : Value} {A : Nat → Prop} {s : State} {args : Array Value} (h : va_Z C n d v A s s.heap) (hv : v.isRef = true) : (Cond.isRef (.static C n d)).before args s = true := by
  obtain ⟨cf, kf, fi, f, a, cell, h1, h2, h3, h4, h5, h6, h7, -⟩ := h
  have he : (Term.static C n d).eval args s none [] s = some v := by
    simp [Term.eval, State.fieldNamed?, h1, h2, h4, h5, h6, h7]
  simp only [Cond.before, Cond.holds, Cond.value, he]
  cases v <;> simp_all [Value.isRef]
theorem vx_isRefq {C n d : String} {A : Nat → Prop} {s : State} {args : Array Value} (h : va_Zq C n d A s s.heap) : (Cond.isRef (.static C n d)).before args s = true := by
  rcases h with h | ⟨t, h⟩
  · exact vx_isRef h rfl
  · exact vx_isRef h rfl
/-- the same frame, seen from here: as if the method were called anew in this heap -/
theorem vx_rebase {T : State} (X : Stand p l e R s m args below meth c T locs cells slots) {R' : Room} (hf : R'.frames ≤ R.frames) (hl : R'.locals ≤ R.locals) (hc : cells + R'.cells ≤ R.cells) (hs : slots + R'.slots ≤ R.slots) :
    Stand p l e R' ((T.setVm s.vm).setFrames (.invoking m args :: below)) m args below meth c T [] 0 0 := by
  have htop : (T.setVm s.vm).topJava?.isSome := X.here.top
  have hF : ((T.setVm s.vm).setFrames (.invoking m args :: below)).frames = .invoking m args :: below := State.frames_setFrames _ (State.cur_lt_of_top htop)
  obtain ⟨g₀, hg0⟩ := Option.isSome_iff_exists.mp htop
  obtain ⟨r, hr⟩ := State.topJava?_eq_some.mp hg0
  have hl9 : e.platform.stackLimits (T.setVm s.vm).me = e.platform.stackLimits s.me := X.limits
  have hb9 : (T.setVm s.vm).me.stackBytes = s.me.stackBytes := X.bytes
  refine ⟨X.admits, X.cas, X.clock, hF, ?_, X.hears, X.method, X.code, X.here, X.tail, X.warmed, ?_, ?_, ?_⟩
  · have h := X.room
    have hU : ((T.setVm s.vm).setFrames (.invoking m args :: below)).localsInUse = s.localsInUse := by
      rw [State.localsInUse_invoking hF (meth := meth) (c := c) X.method X.code, State.localsInUse_invoking X.frames X.method X.code]
    simp only [State.hasRoom, Bool.and_eq_true, decide_eq_true_eq] at h ⊢
    obtain ⟨⟨⟨⟨h1, h2, h3, h4, h5, h6⟩, h7⟩, h8⟩, h9⟩ := h
    rw [X.frames, List.length_cons] at h2 h3
    have q1 := X.heapSize
    have q2 := X.used
    simp only [hF, hU, List.length_cons, State.stackLimits_setFrames, State.stackBytes_setFrames, hl9, hb9]
    refine ⟨⟨⟨⟨by omega, by omega, by omega, by omega, by omega, h6⟩, ?_⟩, ?_⟩, X.book⟩
    · show T.heap.size + R'.cells ≤ e.platform.maxCells
      omega
    · show T.slotsUsed + R'.slots ≤ e.platform.maxSlots
      omega
  · rw [State.stackLimits_setFrames]; rfl
  · rw [State.stackBytes_setFrames]; rfl
  · refine ⟨?_, Nat.le_refl _, Nat.le_refl _, ?_, ?_, fun a c9 h9 => ⟨c9, h9, rfl, rfl, fun _ _ => rfl⟩⟩
    · obtain ⟨t, ht, -⟩ := State.frames_cons hr
      show T.setVm s.vm = { ((T.setVm s.vm).setFrames (.invoking m args :: below)).setFrames (T.setVm s.vm).frames with heap := T.heap, slotsUsed := T.slotsUsed }
      rw [State.setFrames_setFrames, State.setFrames_self ht]
      rfl
    · show T.slotsUsed = T.slotsUsed + ((T.heap.toList.drop T.heap.size).map (·.slots.size)).sum
      rw [List.drop_eq_nil_of_le (Nat.le_of_eq Array.length_toList)]
      rfl
    · show ((T.heap.toList.drop T.heap.size).map (·.slots.size)).sum ≤ 0
      rw [List.drop_eq_nil_of_le (Nat.le_of_eq Array.length_toList)]
      exact Nat.le_refl _
/-- 'throw new E()': new; dup; invokespecial; athrow -/
theorem vx_throw0 {cc : ByteArray} {pc : Nat} (hexec : p.tables.exec = Jvm.exec) (hb : c.code = cc) (hl : l.stackTraces = false) {own cls : String} {names : List String} {ik ic mc ms : Nat} {A : Nat → Prop}
    (hown : s.vm.findClass own = some m.cls) (hcls : Bundle.fit cls = true) (hnames : ∀ n ∈ names, Bundle.fit n = true)
    (hk : (Cond.classLink own ik cls).before args s = true) (hini : (Cond.initialized cls).before args s = true) (hat : ∀ w ∈ vx_at0 own ic cls names, w.before args s = true)
    (hgood : ∀ w ∈ Cond.classLink own ik cls :: Cond.initialized cls :: vx_at0 own ic cls names, vx_ot w = true)
    (hU : vx_Zq Bundle.tN "UNASSIGNED_STACK" Bundle.steD A s s.heap) (hN : vx_Zq Bundle.tN "SUPPRESSED_SENTINEL" Bundle.listD A s s.heap) (hS : va_S A s.heap H locs) (hsize : ls.size = c.maxLocals)
    (d0 : decode cc pc = .ok (.new ik, 3)) (d3 : decode cc (pc + 3) = .ok (.dup, 1)) (d4 : decode cc (pc + 4) = .ok (.invokespecial ic, 3)) (d7 : decode cc (pc + 7) = .ok (.athrow, 1))
    (hout : ∀ x ∈ c.exceptionTable.toList, covers x (pc + 7) = false)
    (hRframes : names.length + 3 < R.frames) (hRlocals : (rest.map fun v => v.category).sum + (13 * (names.length + 1) + 42) ≤ R.locals) (hRcells : cells + 1 ≤ R.cells) (hRslots : slots + 6 ≤ R.slots) (hlocks : meth.locks = false)
    (hx : ∀ t : State, s.vm.Alike t.vm → H.size ≤ t.heap.size → (∀ q : Nat, q < H.size → t.heap[q]? = H[q]?) → XC cls s t)
    (hf : ∀ z ∈ locs, free z.base) (hc : cells + 1 ≤ mc) (hs : slots + 6 ≤ ms) :
    W p l e R s m args below meth c H locs cells slots (vx_MQ below Qc XC args s mc ms free) (F0 m pc ls rest) := by
  intro T hT X
  have htr : e.platform.stackTraces = false := (show e.platform.stackTraces = l.stackTraces by rw [X.admits.platform]).trans hl
  have Y := vx_rebase X (R' := { frames := R.frames, locals := R.locals, cells := 1, slots := 6 }) (Nat.le_refl _) (Nat.le_refl _) hRcells hRslots
  obtain ⟨s', hA⟩ : ∃ z, z = (T.setVm s.vm).setFrames (.invoking m args :: below) := ⟨_, rfl⟩
  rw [← hA] at Y
  have hvm : s'.vm = s.vm := by rw [hA]; rfl
  have hhp : s'.heap = H := by rw [hA]; exact hT
  have hW0 : s.WarmedH s'.vm := by rw [hvm]; exact State.WarmedH.refl s
  have hat' : ∀ w ∈ vx_at0 own ic cls names, w.before args s' = true := fun w hw => vx_ot_at hW0 hvm.symm (hgood w (List.mem_cons_of_mem _ (List.mem_cons_of_mem _ hw))) (hat w hw)
  have hk' : (Cond.classLink own ik cls).before args s' = true := vx_ot_at hW0 hvm.symm (hgood _ List.mem_cons_self) hk
  have hini' : (Cond.initialized cls).before args s' = true := vx_ot_at hW0 hvm.symm (hgood _ (List.mem_cons_of_mem _ List.mem_cons_self)) hini
  have hU' : vx_Zq Bundle.tN "UNASSIGNED_STACK" Bundle.steD A s' s'.heap := by rw [hhp]; exact vx_Zq.moved hW0.alike (hU.kept hS.2.1)
  have hN' : vx_Zq Bundle.tN "SUPPRESSED_SENTINEL" Bundle.listD A s' s'.heap := by rw [hhp]; exact vx_Zq.moved hW0.alike (hN.kept hS.2.1)
  have h : ∀ w ∈ Bundle.ownAtoms0 own ic cls names, w.before args s' = true := vx_own hat' (vx_isRefq hU'.1) (vx_isRefq hN'.1) hU'.2.word hN'.2.word
  have hown' : s'.vm.findClass own = some m.cls := by rw [hvm]; exact hown
  have hins : (Cond.instantiable cls 6).before args s' = true := h _ (by simp [Bundle.ownAtoms0])
  obtain ⟨vm₁, cX, kX, hfX, hkX, -, -, X₁, st1⟩ := Y.newCold hexec (own := own) (C := cls) (index := ik) (n := 6) hown' hk' hins hini'
    (g := F0 m pc ls rest) rfl (by rw [hb]; exact d0) (Nat.le_refl _) (Nat.le_refl _)
  generalize hT1 : (T.setVm vm₁).pushCell { cls := cX, slots := kX.instanceTypes.map defaultValue, vm := .none } = T1 at X₁ st1
  have hcat : (Value.ref T.heap.size).category = 1 := rfl
  have hcellA : T1.heap[T.heap.size]? = some (freshCell cX kX) := by rw [← hT1]; exact State.heap_pushCell_size _ _
  have d3' : decode c.code (pc + 3) = .ok (.dup, 1) := by rw [hb]; exact d3
  obtain ⟨U, hsteps, hrun, hend, hW, hsame, ce, hce, hO⟩ := X₁.ctorThrow0 hexec htr (own := own) (cls := cls) (names := names) (ic := ic) hown' hcls hnames h (fun x hx => nomatch hx) hfX hkX hcellA (by rw [hhp, hT]; exact Nat.le_refl _)
    (g := { method := m, pc := pc + 4, locals := ls, stack := .ref T.heap.size :: .ref T.heap.size :: rest, locked := none }) rfl hsize rfl rfl (rest := rest) rfl
    (by rw [hb]; exact d4) (by rw [hb]; exact d7) hout hRframes (by simp only [List.map_cons, List.sum_cons, hcat]; omega) hlocks
  obtain ⟨f1, f2⟩ := vx_frame hsame
  rw [hhp] at f1 f2
  have hWs : s.WarmedH U.vm := State.WarmedH.trans hW0 hW
  have hcl : s.vm.findClass cls = some ce.cls := by
    have h9 := hO.cls
    rw [hvm] at h9
    exact h9
  have hall : s.sameButNew ({ U with vm := s.vm } : State) locs mc ms := by
    subst hA
    obtain ⟨e1, e2⟩ := hsame
    rw [State.setFrames_setFrames] at e1
    have h2 : (T.setVm s.vm).sameButNew ({ U with vm := s.vm } : State) [] (0 + 1) (0 + 6) := ⟨e1, e2⟩
    have h3 := X.same.trans h2
    rw [List.append_nil] at h3
    exact h3.mono hc hs
  refine ⟨U, ?_, .threw T.heap.size, hrun, hend, Or.inr ⟨T.heap.size, rfl, cls, ce, locs, hx U hWs.alike f1 (fun q hq => f2 q hq (fun z hz => nomatch hz)), hce, hO.vm, hcl, hWs, hall, hf⟩⟩
  refine st1 _ ?_
  show Steps p.tables e below (T1.setTop { method := m, pc := pc + 3, locals := ls, stack := .ref T.heap.size :: rest, locked := none }) _
  jvm_step X₁.here [X₁.here.top, hexec, d3', Value.category]
  exact hsteps
/-- 'throw new E("text")': new; dup; ldc; invokespecial; athrow -/
theorem vx_throwS {cc : ByteArray} {pc : Nat} (hexec : p.tables.exec = Jvm.exec) (hb : c.code = cc) (hl : l.stackTraces = false) {own cls text : String} {names : List String} {ik is ic mc ms sa : Nat} {A : Nat → Prop}
    (hown : s.vm.findClass own = some m.cls) (hcls : Bundle.fit cls = true) (hnames : ∀ n ∈ names, Bundle.fit n = true)
    (hk : (Cond.classLink own ik cls).before args s = true) (hini : (Cond.initialized cls).before args s = true) (hstr : vk_R own is text sa s) (hat : ∀ w ∈ vx_atS own ic cls names, w.before args s = true)
    (hgood : ∀ w ∈ Cond.classLink own ik cls :: Cond.initialized cls :: vx_atS own ic cls names, vx_ot w = true)
    (hU : vx_Zq Bundle.tN "UNASSIGNED_STACK" Bundle.steD A s s.heap) (hN : vx_Zq Bundle.tN "SUPPRESSED_SENTINEL" Bundle.listD A s s.heap) (hS : va_S A s.heap H locs) (hsize : ls.size = c.maxLocals)
    (d0 : decode cc pc = .ok (.new ik, 3)) (d3 : decode cc (pc + 3) = .ok (.dup, 1)) (d4 : decode cc (pc + 4) = .ok (.ldc is, 2)) (d6 : decode cc (pc + 6) = .ok (.invokespecial ic, 3)) (d9 : decode cc (pc + 9) = .ok (.athrow, 1))
    (hout : ∀ x ∈ c.exceptionTable.toList, covers x (pc + 9) = false)
    (hRframes : names.length + 3 < R.frames) (hRlocals : (rest.map fun v => v.category).sum + (13 * (names.length + 1) + 43) ≤ R.locals) (hRcells : cells + 1 ≤ R.cells) (hRslots : slots + 6 ≤ R.slots) (hlocks : meth.locks = false)
    (hx : ∀ t : State, s.vm.Alike t.vm → H.size ≤ t.heap.size → (∀ q : Nat, q < H.size → t.heap[q]? = H[q]?) → XC cls s t)
    (hf : ∀ z ∈ locs, free z.base) (hc : cells + 1 ≤ mc) (hs : slots + 6 ≤ ms) :
    W p l e R s m args below meth c H locs cells slots (vx_MQ below Qc XC args s mc ms free) (F0 m pc ls rest) := by
  intro T hT X
  have htr : e.platform.stackTraces = false := (show e.platform.stackTraces = l.stackTraces by rw [X.admits.platform]).trans hl
  have Y := vx_rebase X (R' := { frames := R.frames, locals := R.locals, cells := 1, slots := 6 }) (Nat.le_refl _) (Nat.le_refl _) hRcells hRslots
  obtain ⟨s', hA⟩ : ∃ z, z = (T.setVm s.vm).setFrames (.invoking m args :: below) := ⟨_, rfl⟩
  rw [← hA] at Y
  have hvm : s'.vm = s.vm := by rw [hA]; rfl
  have hhp : s'.heap = H := by rw [hA]; exact hT
  have hW0 : s.WarmedH s'.vm := by rw [hvm]; exact State.WarmedH.refl s
  have hat' : ∀ w ∈ vx_atS own ic cls names, w.before args s' = true := fun w hw => vx_ot_at hW0 hvm.symm (hgood w (List.mem_cons_of_mem _ (List.mem_cons_of_mem _ hw))) (hat w hw)
  have hk' : (Cond.classLink own ik cls).before args s' = true := vx_ot_at hW0 hvm.symm (hgood _ List.mem_cons_self) hk
  have hini' : (Cond.initialized cls).before args s' = true := vx_ot_at hW0 hvm.symm (hgood _ (List.mem_cons_of_mem _ List.mem_cons_self)) hini
  have hU' : vx_Zq Bundle.tN "UNASSIGNED_STACK" Bundle.steD A s' s'.heap := by rw [hhp]; exact vx_Zq.moved hW0.alike (hU.kept hS.2.1)
  have hN' : vx_Zq Bundle.tN "SUPPRESSED_SENTINEL" Bundle.listD A s' s'.heap := by rw [hhp]; exact vx_Zq.moved hW0.alike (hN.kept hS.2.1)
  have h : ∀ w ∈ Bundle.ownAtoms own ic cls names, w.before args s' = true := vx_own hat' (vx_isRefq hU'.1) (vx_isRefq hN'.1) hU'.2.word hN'.2.word
  have hown' : s'.vm.findClass own = some m.cls := by rw [hvm]; exact hown
  have hins : (Cond.instantiable cls 6).before args s' = true := h _ (by simp [Bundle.ownAtoms])
  obtain ⟨vm₁, cX, kX, hfX, hkX, -, -, X₁, st1⟩ := Y.newCold hexec (own := own) (C := cls) (index := ik) (n := 6) hown' hk' hins hini'
    (g := F0 m pc ls rest) rfl (by rw [hb]; exact d0) (Nat.le_refl _) (Nat.le_refl _)
  generalize hT1 : (T.setVm vm₁).pushCell { cls := cX, slots := kX.instanceTypes.map defaultValue, vm := .none } = T1 at X₁ st1
  have hcat : (Value.ref T.heap.size).category = 1 := rfl
  have hcellA : T1.heap[T.heap.size]? = some (freshCell cX kX) := by rw [← hT1]; exact State.heap_pushCell_size _ _
  have d3' : decode c.code (pc + 3) = .ok (.dup, 1) := by rw [hb]; exact d3
  have d4' : decode c.code (pc + 4) = .ok (.ldc is, 2) := by rw [hb]; exact d4
  have hstr' : vk_R own is text sa s' := vk_R.warm hW0 hstr
  obtain ⟨U, hsteps, hrun, hend, hW, hsame, ce, hce, hO⟩ := X₁.ctorThrowS hexec htr (own := own) (cls := cls) (names := names) (ic := ic) hown' hcls hnames h (fun x hx => nomatch hx) hfX hkX hcellA (by rw [hhp, hT]; exact Nat.le_refl _) (msg := .ref sa) rfl
    (g := { method := m, pc := pc + 6, locals := ls, stack := .ref sa :: .ref T.heap.size :: .ref T.heap.size :: rest, locked := none }) rfl hsize rfl rfl (rest := rest) rfl
    (by rw [hb]; exact d6) (by rw [hb]; exact d9) hout hRframes (by simp only [List.map_cons, List.sum_cons, hcat]; omega) hlocks
  obtain ⟨f1, f2⟩ := vx_frame hsame
  rw [hhp] at f1 f2
  have hWs : s.WarmedH U.vm := State.WarmedH.trans hW0 hW
  have hcl : s.vm.findClass cls = some ce.cls := by
    have h9 := hO.cls
    rw [hvm] at h9
    exact h9
  have hall : s.sameButNew ({ U with vm := s.vm } : State) locs mc ms := by
    subst hA
    obtain ⟨e1, e2⟩ := hsame
    rw [State.setFrames_setFrames] at e1
    have h2 : (T.setVm s.vm).sameButNew ({ U with vm := s.vm } : State) [] (0 + 1) (0 + 6) := ⟨e1, e2⟩
    have h3 := X.same.trans h2
    rw [List.append_nil] at h3
    exact h3.mono hc hs
  refine ⟨U, ?_, .threw T.heap.size, hrun, hend, Or.inr ⟨T.heap.size, rfl, cls, ce, locs, hx U hWs.alike f1 (fun q hq => f2 q hq (fun z hz => nomatch hz)), hce, hO.vm, hcl, hWs, hall, hf⟩⟩
  refine st1 _ ?_
  show Steps p.tables e below (T1.setTop { method := m, pc := pc + 3, locals := ls, stack := .ref T.heap.size :: rest, locked := none }) _
  jvm_step X₁.here [X₁.here.top, hexec, d3', Value.category]
  exact X₁.ldcString hexec (own := own) (text := text) (index := is) (a := sa) hown' hstr'.1 hstr'.2
    (g := { method := m, pc := pc + 4, locals := ls, stack := .ref T.heap.size :: .ref T.heap.size :: rest, locked := none }) rfl d4' _ hsteps
/-- 'throw new E("text")', the text by a wide index -/
theorem vx_throwSW {cc : ByteArray} {pc : Nat} (hexec : p.tables.exec = Jvm.exec) (hb : c.code = cc) (hl : l.stackTraces = false) {own cls text : String} {names : List String} {ik is ic mc ms sa : Nat} {A : Nat → Prop}
    (hown : s.vm.findClass own = some m.cls) (hcls : Bundle.fit cls = true) (hnames : ∀ n ∈ names, Bundle.fit n = true)
    (hk : (Cond.classLink own ik cls).before args s = true) (hini : (Cond.initialized cls).before args s = true) (hstr : vk_R own is text sa s) (hat : ∀ w ∈ vx_atS own ic cls names, w.before args s = true)
    (hgood : ∀ w ∈ Cond.classLink own ik cls :: Cond.initialized cls :: vx_atS own ic cls names, vx_ot w = true)
    (hU : vx_Zq Bundle.tN "UNASSIGNED_STACK" Bundle.steD A s s.heap) (hN : vx_Zq Bundle.tN "SUPPRESSED_SENTINEL" Bundle.listD A s s.heap) (hS : va_S A s.heap H locs) (hsize : ls.size = c.maxLocals)
    (d0 : decode cc pc = .ok (.new ik, 3)) (d3 : decode cc (pc + 3) = .ok (.dup, 1)) (d4 : decode cc (pc + 4) = .ok (.ldc_w is, 3)) (d7 : decode cc (pc + 7) = .ok (.invokespecial ic, 3)) (d10 : decode cc (pc + 10) = .ok (.athrow, 1))
    (hout : ∀ x ∈ c.exceptionTable.toList, covers x (pc + 10) = false)
    (hRframes : names.length + 3 < R.frames) (hRlocals : (rest.map fun v => v.category).sum + (13 * (names.length + 1) + 43) ≤ R.locals) (hRcells : cells + 1 ≤ R.cells) (hRslots : slots + 6 ≤ R.slots) (hlocks : meth.locks = false)
    (hx : ∀ t : State, s.vm.Alike t.vm → H.size ≤ t.heap.size → (∀ q : Nat, q < H.size → t.heap[q]? = H[q]?) → XC cls s t)
    (hf : ∀ z ∈ locs, free z.base) (hc : cells + 1 ≤ mc) (hs : slots + 6 ≤ ms) :
    W p l e R s m args below meth c H locs cells slots (vx_MQ below Qc XC args s mc ms free) (F0 m pc ls rest) := by
  intro T hT X
  have htr : e.platform.stackTraces = false := (show e.platform.stackTraces = l.stackTraces by rw [X.admits.platform]).trans hl
  have Y := vx_rebase X (R' := { frames := R.frames, locals := R.locals, cells := 1, slots := 6 }) (Nat.le_refl _) (Nat.le_refl _) hRcells hRslots
  obtain ⟨s', hA⟩ : ∃ z, z = (T.setVm s.vm).setFrames (.invoking m args :: below) := ⟨_, rfl⟩
  rw [← hA] at Y
  have hvm : s'.vm = s.vm := by rw [hA]; rfl
  have hhp : s'.heap = H := by rw [hA]; exact hT
  have hW0 : s.WarmedH s'.vm := by rw [hvm]; exact State.WarmedH.refl s
  have hat' : ∀ w ∈ vx_atS own ic cls names, w.before args s' = true := fun w hw => vx_ot_at hW0 hvm.symm (hgood w (List.mem_cons_of_mem _ (List.mem_cons_of_mem _ hw))) (hat w hw)
  have hk' : (Cond.classLink own ik cls).before args s' = true := vx_ot_at hW0 hvm.symm (hgood _ List.mem_cons_self) hk
  have hini' : (Cond.initialized cls).before args s' = true := vx_ot_at hW0 hvm.symm (hgood _ (List.mem_cons_of_mem _ List.mem_cons_self)) hini
  have hU' : vx_Zq Bundle.tN "UNASSIGNED_STACK" Bundle.steD A s' s'.heap := by rw [hhp]; exact vx_Zq.moved hW0.alike (hU.kept hS.2.1)
  have hN' : vx_Zq Bundle.tN "SUPPRESSED_SENTINEL" Bundle.listD A s' s'.heap := by rw [hhp]; exact vx_Zq.moved hW0.alike (hN.kept hS.2.1)
  have h : ∀ w ∈ Bundle.ownAtoms own ic cls names, w.before args s' = true := vx_own hat' (vx_isRefq hU'.1) (vx_isRefq hN'.1) hU'.2.word hN'.2.word
  have hown' : s'.vm.findClass own = some m.cls := by rw [hvm]; exact hown
  have hins : (Cond.instantiable cls 6).before args s' = true := h _ (by simp [Bundle.ownAtoms])
  obtain ⟨vm₁, cX, kX, hfX, hkX, -, -, X₁, st1⟩ := Y.newCold hexec (own := own) (C := cls) (index := ik) (n := 6) hown' hk' hins hini'
    (g := F0 m pc ls rest) rfl (by rw [hb]; exact d0) (Nat.le_refl _) (Nat.le_refl _)
  generalize hT1 : (T.setVm vm₁).pushCell { cls := cX, slots := kX.instanceTypes.map defaultValue, vm := .none } = T1 at X₁ st1
  have hcat : (Value.ref T.heap.size).category = 1 := rfl
  have hcellA : T1.heap[T.heap.size]? = some (freshCell cX kX) := by rw [← hT1]; exact State.heap_pushCell_size _ _
  have d3' : decode c.code (pc + 3) = .ok (.dup, 1) := by rw [hb]; exact d3
  have d4' : decode c.code (pc + 4) = .ok (.ldc_w is, 3) := by rw [hb]; exact d4
  have hstr' : vk_R own is text sa s' := vk_R.warm hW0 hstr
  obtain ⟨U, hsteps, hrun, hend, hW, hsame, ce, hce, hO⟩ := X₁.ctorThrowS hexec htr (own := own) (cls := cls) (names := names) (ic := ic) hown' hcls hnames h (fun x hx => nomatch hx) hfX hkX hcellA (by rw [hhp, hT]; exact Nat.le_refl _) (msg := .ref sa) rfl
    (g := { method := m, pc := pc + 7, locals := ls, stack := .ref sa :: .ref T.heap.size :: .ref T.heap.size :: rest, locked := none }) rfl hsize rfl rfl (rest := rest) rfl
    (by rw [hb]; exact d7) (by rw [hb]; exact d10) hout hRframes (by simp only [List.map_cons, List.sum_cons, hcat]; omega) hlocks
  obtain ⟨f1, f2⟩ := vx_frame hsame
  rw [hhp] at f1 f2
  have hWs : s.WarmedH U.vm := State.WarmedH.trans hW0 hW
  have hcl : s.vm.findClass cls = some ce.cls := by
    have h9 := hO.cls
    rw [hvm] at h9
    exact h9
  have hall : s.sameButNew ({ U with vm := s.vm } : State) locs mc ms := by
    subst hA
    obtain ⟨e1, e2⟩ := hsame
    rw [State.setFrames_setFrames] at e1
    have h2 : (T.setVm s.vm).sameButNew ({ U with vm := s.vm } : State) [] (0 + 1) (0 + 6) := ⟨e1, e2⟩
    have h3 := X.same.trans h2
    rw [List.append_nil] at h3
    exact h3.mono hc hs
  refine ⟨U, ?_, .threw T.heap.size, hrun, hend, Or.inr ⟨T.heap.size, rfl, cls, ce, locs, hx U hWs.alike f1 (fun q hq => f2 q hq (fun z hz => nomatch hz)), hce, hO.vm, hcl, hWs, hall, hf⟩⟩
  refine st1 _ ?_
  show Steps p.tables e below (T1.setTop { method := m, pc := pc + 3, locals := ls, stack := .ref T.heap.size :: rest, locked := none }) _
  jvm_step X₁.here [X₁.here.top, hexec, d3', Value.category]
  exact X₁.ldcStringW hexec (own := own) (text := text) (index := is) (a := sa) hown' hstr'.1 hstr'.2
    (g := { method := m, pc := pc + 4, locals := ls, stack := .ref T.heap.size :: .ref T.heap.size :: rest, locked := none }) rfl d4' _ hsteps
end Ends
section Bodies
variable {l : Launch}
theorem vx_ofW {y : MethodName} {ws ws' : List Cond} {rm : Room} {Pc : Array Value → State → Prop} {Qc : Array Value → State → Outcome → State → Prop} {XC : String → State → State → Prop} {mc ms : Nat} {free : Addr → Prop} {cc : ByteArray} {maxL : Nat} {ret : Option FieldType}
    (hy : plainName y.cls = true) (hw : ws = Cond.code y cc maxL ret :: ws')
    (body : ∀ p e s m args below meth c s₁, BodyLoose p l y (headSpec ws rm) cc maxL ret e s m args below meth c s₁ → c.maxLocals = maxL → (∀ x ∈ c.exceptionTable.toList, False) → Pc args s →
      W p l e (headSpec ws rm).room s m args below meth c s.heap [] 0 0 (vx_MQ below Qc XC args s mc ms free) (entryFrame m args maxL)) : vx_Met l y ws rm Pc Qc XC mc ms free := by
  refine MetFree.of_bodyS (code := cc) (maxLocals := maxL) (ret := ret) hy ?_ ?_
  · intro args s m h hn
    obtain ⟨meth, c, h1, h2, h3, h4, h5, h6, -, -⟩ := Cond.code_spec hn (atoms_spec (ws := ws) h _ (by rw [hw]; exact List.mem_cons_self))
    exact ⟨meth, c, h1, h2, h3, h4, h5, h6⟩
  · intro p e s m args below meth c s₁ B hml hP _
    have hh0 : s₁.heap = s.heap := by rw [B.state]; rfl
    have ht : ∀ x ∈ c.exceptionTable.toList, False := by
      obtain ⟨meth9, c9, h1, h2, -, -, -, -, h7, -⟩ := Cond.code_spec B.named (atoms_spec (ws := ws) B.pre _ (by rw [hw]; exact List.mem_cons_self))
      cases Option.some.inj (h1.symm.trans B.method)
      cases Option.some.inj (h2.symm.trans (Stand.of_body B).code)
      intro x hx
      rw [Array.isEmpty_iff.mp h7] at hx
      cases hx
    obtain ⟨t, a1, o, b1, b2, b3⟩ := body p e s m args below meth c s₁ B hml ht hP s₁ hh0 (Stand.of_body B)
    exact ⟨t, o, a1, b1, b2, b3⟩
/-- the table of a body with handlers -/
theorem vx_table {p : Program} {x y : MethodName} {S : Spec} {cc bytes : ByteArray} {maxL maxL' : Nat} {ret ret' : Option FieldType} {e : Env} {s s₁ : State} {m : MethodId} {args : Array Value} {below : List Frame} {meth : Method} {c : Code} {hh : List (Nat × Nat × Nat × Nat)}
    (B : BodyLoose p l y S cc maxL ret e s m args below meth c s₁) (h : (Cond.codeWith y bytes maxL' ret' hh).before args s = true) : c.exceptionTable.toList = tableOf hh := by
  obtain ⟨m9, meth9, c9, hn9, h1, h2, -, -, h6, -⟩ := Cond.codeWith_spec h
  cases Option.some.inj (hn9.symm.trans B.named)
  cases Option.some.inj (h1.symm.trans B.method)
  cases Option.some.inj (h2.symm.trans (Stand.of_body B).code)
  rw [← h6, table_eq]
end Bodies
end VXA
/-! ===== END ===== -/
/-! ===== BEGIN a static call of a method with an exception table ===== -/
section VXS
variable {p : Program} {l : Launch} {e : Env} {R : Room} {s : State} {m : MethodId} {args : Array Value} {below : List Frame} {meth : Method} {c : Code} {T : State} {H : Heap} {locs : List Loc} {cells slots : Nat}
abbrev vx_CSW (R : Room) (s : State) (args : Array Value) (own : String) (index : Nat) (y : MethodName) (bytes : ByteArray) (maxL : Nat) (ret : Option FieldType) (hh : List (Nat × Nat × Nat × Nat)) (ws : List Cond) (rm : Room) (mc ms n : Nat) : Prop :=
  (rm.cells = mc ∧ rm.slots = ms ∧ rm.frames + 1 ≤ R.frames ∧ 8 + (maxL + 11) + rm.locals ≤ R.locals ∧ (∀ w ∈ ws, ∀ (a' : Array Value) (U : State), s.WarmedH U.vm → w.before a' U = true) ∧ Cond.codeWith y bytes maxL ret hh ∈ ws) ∧
  (Cond.codeWith y bytes maxL ret hh).before args s = true ∧ (Cond.initialized y.cls).before args s = true ∧ (y.cls ≠ "java/lang/invoke/MethodHandle" ∧ y.cls ≠ "java/lang/invoke/VarHandle") ∧
  (∀ sig, parseMethodDescriptor y.desc = some sig → n = sig.parameters.length) ∧ (Cond.methodLink own index y).before args s = true ∧ (Cond.static y).before args s = true
theorem vx_cwSW {own : String} {index maxL mc ms : Nat} {y : MethodName} {bytes : ByteArray} {ret : Option FieldType} {hh : List (Nat × Nat × Nat × Nat)} {Ts ws ws' : List Cond} {rm : Room} (n : Nat) (ht : ∀ w ∈ Ts, w.before args s = true) (hT : GoodIn Ts (va_wsS own index y ws)) (hw : ws = Cond.codeWith y bytes maxL ret hh :: ws') (hrc : rm.cells = mc) (hrs : rm.slots = ms)
    (hd : y.cls ≠ "java/lang/invoke/MethodHandle" ∧ y.cls ≠ "java/lang/invoke/VarHandle" ∧ (parseMethodDescriptor y.desc).map (fun d => d.parameters.length) = some n) (hR : rm.frames + 1 ≤ R.frames ∧ 8 + (maxL + 11) + rm.locals ≤ R.locals) :
    vx_CSW R s args own index y bytes maxL ret hh ws rm mc ms n := by
  have ok : ∀ w ∈ va_wsS own index y ws, w.before args s = true := fun w h => ht w (hT w h).1
  have hG : GoodIn Ts ws := fun w h => hT w (by unfold va_wsS; exact List.mem_append_right _ h)
  have hc : Cond.codeWith y bytes maxL ret hh ∈ ws := by rw [hw]; exact List.mem_cons_self
  refine ⟨⟨hrc, hrs, hR.1, hR.2, pay_in ht hG, hc⟩, ht _ (hG _ hc).1, ok _ (by simp [va_wsS]), ⟨hd.1, hd.2.1⟩, fun sig h => ?_, ok _ (by simp [va_wsS]), ok _ (by simp [va_wsS])⟩
  have h2 := hd.2.2
  rw [h] at h2
  exact (Option.some.inj h2).symm
theorem vx_callSW (X : Stand p l e R s m args below meth c T locs cells slots) (hexec : p.tables.exec = Jvm.exec) {own : String} {index : Nat} {y : MethodName} {bytes : ByteArray} {maxL : Nat} {ret : Option FieldType} {hh : List (Nat × Nat × Nat × Nat)}
    (hown : s.vm.findClass own = some m.cls) (hlink : (Cond.methodLink own index y).before args s = true) (hstat : (Cond.static y).before args s = true) (hinit : (Cond.initialized y.cls).before args s = true)
    (hcode : (Cond.codeWith y bytes maxL ret hh).before args s = true) (hy : y.cls ≠ "java/lang/invoke/MethodHandle" ∧ y.cls ≠ "java/lang/invoke/VarHandle")
    {W9 : Nat} {Pre : Pt → Array Value → Prop} {Post : Pt → Array Value → Option Value → Pt → Prop} (hK : Back l R p e below s args y 3 W9 Pre Post)
    {g : JFrame} (hg : g.method = m) (hsize : g.locals.size = c.maxLocals) {argsL rest : List Value} (hlen : ∀ sig, parseMethodDescriptor y.desc = some sig → argsL.length = sig.parameters.length)
    (hstack : g.stack = argsL.reverse ++ rest) (hW : 2 * g.monitorRoom + (rest.map fun v => v.category).sum ≤ W9) (hdg : decode c.code g.pc = .ok (.invokestatic index, 3))
    (hpre : ∀ vm₁, s.WarmedH vm₁ → Pre ⟨T.setVm vm₁, locs, cells, slots⟩ argsL.toArray) :
    ∃ (v : Option Value) (vm₁ : Vm) (B : Pt), s.WarmedH vm₁ ∧ Stand p l e R s m args below meth c B.U B.locs B.cells B.slots ∧ Post ⟨T.setVm vm₁, locs, cells, slots⟩ argsL.toArray v B ∧
      ∀ target, Steps p.tables e below (B.U.setTop { g with pc := g.pc + 3, stack := v.toList ++ rest }) target → Steps p.tables e below (T.setTop g) target := by
  obtain ⟨mk, methM, cM, hnamed, hmethM, -, -, -, -, -, -, hsigM⟩ := Cond.codeWith_spec hcode
  have hstatic : methM.isStatic = true := Cond.static_spec hnamed hmethM hstat
  obtain ⟨kP, hkP, -⟩ := className_of_methodNamed hnamed
  have hinitP : kP.init = .initialized := Cond.initialized_spec (findClass_of_methodNamed hnamed) hkP hinit
  obtain ⟨vm₁, X₁, hstep₁⟩ := X.invokestatic hexec hown hlink hnamed hmethM hstatic hkP hinitP hy (g := g) hg (argsL := argsL) (rest := rest) (hlen _ hsigM) hstack hdg
  obtain ⟨v, B, X', hpost, hsteps⟩ := hK m meth c ⟨T.setVm vm₁, locs, cells, slots⟩ { g with stack := rest } (.invokestatic index) mk argsL.toArray X₁ hg hsize hdg hW (X₁.named hnamed) (hpre vm₁ X₁.warmed)
  exact ⟨v, vm₁, B, X₁.warmed, X', hpost, fun target h => hstep₁ _ fun acts => by rw [doInvoke_state]; exact hsteps.trans h⟩
theorem vx_runSW {y : MethodName} {bytes cc : ByteArray} {maxL nL mc ms n index : Nat} {ret : Option FieldType} {hh : List (Nat × Nat × Nat × Nat)} {ws : List Cond} {rm : Room} {Pc : Array Value → State → Prop} {Qc : Array Value → State → Outcome → State → Prop} {free : Addr → Prop} {Ts : List Cond} {own : String} {As rest : List Value} {g : JFrame}
    (S : CallFix p m c cc nL s args Ts own) (hM : Met l y ws rm Pc Qc mc ms free) (cw : vx_CSW R s args own index y bytes maxL ret hh ws rm mc ms n) (hp : PreS s H Pc As)
    (hg : g.method = m) (hn : As.length = n) (hsize : g.locals.size = nL) (hstack : g.stack = As.reverse ++ rest) (hW : 2 * g.monitorRoom + (rest.map fun v => v.category).sum ≤ 8) (hdg : decode cc g.pc = .ok (.invokestatic index, 3)) (hf : cells + mc ≤ R.cells ∧ slots + ms ≤ R.slots) :
    va_Run p l e R s m args below meth c H locs cells slots mc ms g rest (Qc As.toArray) (free) := by
  obtain ⟨⟨hrc, hrs, hfr, hlo, hws, hcw⟩, hcode, hini, hy, hlen, hl, hstt⟩ := cw
  have hK : Back l R p e below s args y 3 8 (PreOf R mc ms Pc) (PostOf Qc mc ms free) := va_backW (hh := hh) (bytes := bytes) (maxL := maxL) (ret := ret) hM hp.1 hrc hrs hfr hlo hws hcw (fun a' U hW => word_at hW (Or.inl (by first | rfl | simp [Cond.onTables, Cond.keeps, Cond.steady])) hini)
  obtain ⟨hx, hb, hml, ho, -⟩ := S
  intro T hT X
  obtain ⟨v, vm₁, ⟨U', l2, c2, s2⟩, hW₁, X', ⟨g', mk, t, L, e1, e2, hq, h1, hL, h2, h3⟩, st⟩ := vx_callSW X hx (hh := hh) (bytes := bytes) (maxL := maxL) (ret := ret) ho hl hstt hini hcode hy hK hg (hsize.trans hml.symm) (argsL := As) (rest := rest) (fun sig h => hn.trans (hlen sig h)) hstack hW (by rw [hb]; exact hdg)
    (fun vm₁ hW₁ => ⟨hf.1, hf.2, hp.2 (T.setVm vm₁) hT hW₁⟩)
  dsimp only [Pt.U, Pt.locs, Pt.cells, Pt.slots] at X' e1 e2 h1 h2 h3 st
  subst h1; subst h2; subst h3
  exact ⟨v, (T.setVm vm₁).calling g' mk As.toArray, t, U', L, hT, X', hL, e1, e2, hq, st⟩
/-- not caught here, past rows that name other classes: it goes on to the caller -/
theorem vx_outP {p : Program} {l : Launch} {e : Env} {R : Room} {s : State} {m : MethodId} {args : Array Value} {below : List Frame} {meth : Method} {c : Code} {H : Heap} {locs : List Loc} {cells slots : Nat} {free : Addr → Prop} {ls : Array Slot} {rest : List Value} {Qc : Array Value → State → Outcome → State → Prop} {XC : String → State → State → Prop}
    {pc : Nat} {own E : String} {ce : Cell} {q : Addr} {mc ms : Nat} (hown : s.vm.findClass own = some m.cls) (hlocks : meth.locks = false)
    (hpass : ∀ z ∈ c.exceptionTable.toList, covers z pc = false ∨ (z.catchType ≠ 0 ∧ ∃ nm : String, (Cond.classLink own z.catchType nm).before args s = true ∧ va_Nc E nm s)) (hcell : H[q]? = some ce) (hv : ce.vm = .none) (hcl : s.vm.findClass E = some ce.cls)
    (hx : ∀ t : State, t.heap = H → s.vm.Alike t.vm → XC E s t) (hf : ∀ z ∈ locs, free z.base) (hc : cells ≤ mc) (hs : slots ≤ ms) :
    vx_W p l e R s m args below meth c H locs cells slots (vx_MQ below Qc XC args s mc ms free) (F0 m pc ls rest) q := by
  intro T hT X
  have hpl : e.platform.magicAccessors = ({} : Platform).magicAccessors := by rw [X.admits.platform]
  obtain ⟨vm', hW', X', st⟩ := X.outThrough hlocks q (g := F0 m pc ls rest) rfl rfl rfl (cell := ce) (by rw [hT]; exact hcell) (by rw [hv]; rfl)
    (by obtain ⟨k9, h9, -⟩ := Vm.findClass_spec hcl; exact ⟨k9, h9⟩) (fun z hz => by
      rcases hpass z hz with h | ⟨hz0, nm, hl1, hn1⟩
      · exact Or.inl h
      · obtain ⟨c6, hc6, hcl6⟩ := Cond.classLink_spec hown hl1 e.platform hpl
        obtain ⟨a8, b8, h1, h2, h3⟩ := hn1
        cases Option.some.inj (h1.symm.trans hcl)
        cases Option.some.inj (h2.symm.trans hc6)
        exact Or.inr ⟨hz0, _, hcl6, h3⟩)
  obtain ⟨g₀, hfr⟩ := X'.frames_eq
  have hcell9 : ((T.setVm vm').setFrames (.throwing q :: below)).heap[q]? = some ce := by
    show T.heap[q]? = some ce
    rw [hT]; exact hcell
  have hend : Ended ((T.setVm vm').setFrames (.throwing q :: below)) below (.threw q) := State.frames_setFrames _ (State.cur_lt_of_frames hfr)
  refine ⟨(T.setVm vm').setFrames (.throwing q :: below), ?_, .threw q, X'.here.running, hend, Or.inr ⟨q, rfl, E, ce, locs, hx _ hT (X'.ends _).1.alike, hcell9, hv, hcl, (X'.ends _).1, (X'.ends _).2.mono hc hs, hf⟩⟩
  rw [X.pushThrowing_eq]
  exact st
/-- a thing of a world lies in the heap -/
theorem vx_lt {D : va_G} {cl : List vw_C} {ws : va_W} {H1 : Heap} (h : va_P D cl ws H1) {k : Nat} {q : Nat × va_E} (hk : ws[k]? = some q) : q.1 < H1.size := (h k q hk).lt
end VXS
/-! ===== END ===== -/
/-! ===== BEGIN methods with a table of their own: called by a name, returning or throwing ===== -/
section VXH
/-! vx_backW, vx_callVX, vx_callSX, vx_callVW, vx_runVW, vx_runVX, vx_runSX, vx_ofWH follow the same proofs as their sisters above (Free/Laws.lean, Shelf42/LK1.lean); vx_outP calls Shelf42/NT130.lean (outThrough). -/
section
variable {l : Launch} {R : Room} {p : Program} {e : Env} {below : List Frame} {s : State} {sargs : Array Value} {y : MethodName} {len W9 : Nat}
theorem vx_backW {ws : List Cond} {rm : Room} {Pc : Array Value → State → Prop} {Qc : Array Value → State → Outcome → State → Prop} {XC : String → State → State → Prop} {mc ms : Nat} {free : Addr → Prop} {bytes : ByteArray} {maxL : Nat} {ret : Option FieldType} {hh : List (Nat × Nat × Nat × Nat)}
    (hM : vx_Met l y ws rm Pc Qc XC mc ms free) (hblind : FrameBlind Pc) (hrc : rm.cells = mc) (hrs : rm.slots = ms)
    (hframes : rm.frames + 1 ≤ R.frames) (hlocals : W9 + (maxL + 11) + rm.locals ≤ R.locals)
    (hws : ∀ w ∈ ws, ∀ a' U, s.WarmedH U.vm → w.before a' U = true) (hcode : Cond.codeWith y bytes maxL ret hh ∈ ws) (hinit : ∀ a' U, s.WarmedH U.vm → (Cond.initialized y.cls).before a' U = true) :
    vx_Back l R p e below s sargs y len W9 (PreOf R mc ms Pc) (PostOf Qc mc ms free) (vx_Post XC mc ms free) := by
  intro m meth c A g ig mk a X hg hsize hdg hW hn hp
  have h1 : (headSpec ws rm).pre.before a A.U = true := atoms_intro fun w hw => hws w hw _ _ X.warmed
  have h2 : (Cond.codeWith y bytes maxL ret hh).before a A.U = true := hws _ hcode _ _ X.warmed
  have h3 : (Cond.initialized y.cls).before a A.U = true := hinit _ _ X.warmed
  have h4 : A.cells + (headSpec ws rm).room.cells ≤ R.cells := by rw [show (headSpec ws rm).room.cells = mc from hrc]; exact hp.1
  have h5 : A.slots + (headSpec ws rm).room.slots ≤ R.slots := by rw [show (headSpec ws rm).room.slots = ms from hrs]; exact hp.2.1
  have hPc : Pc a (A.U.calling g mk a) := hblind _ _ _ _ hp.2.2
  obtain ⟨U, Ls, c0, s0⟩ := A
  dsimp only [Pt.U, Pt.locs, Pt.cells, Pt.slots] at h1 h2 h3 h4 h5 X hn hPc ⊢
  obtain ⟨m9, methY, cY, hn9, hmY, hcY, -, hlY, -⟩ := Cond.codeWith_spec h2
  cases Option.some.inj (hn9.symm.trans hn)
  obtain ⟨kY, hkY, -⟩ := className_of_methodNamed hn
  have hinitY : kY.init = .initialized := Cond.initialized_spec (findClass_of_methodNamed hn) hkY h3
  have h : At U g.method c below := by rw [hg]; exact X.here
  have hlocals9 : W9 + (maxL + 11) + (headSpec ws rm).room.locals ≤ R.locals := hlocals
  have happ : (headSpec ws rm).appliesLoose y e.platform (U.calling g mk a) = true :=
    Spec.appliesLoose_calling (g := g) h hdg hn hkY hinitY
      (X.room_calling (g := g) (R' := (headSpec ws rm).room) hsize hmY hcY hframes (by rw [hlY]; omega) h4 h5) h1
  obtain ⟨mid, hmid⟩ := h.above
  have hfr : (U.setTop g).frames = (.java g :: mid) ++ below := by rw [State.frames_setTop' g h.top, hmid]; rfl
  obtain ⟨o, s₂, hsteps, -, hend, hq⟩ := Steps.callFree hM p X.admits X.cas X.clock (acts := []) hfr happ hPc trivial
  have hq' : vx_Q Qc XC mc ms free a (U.calling g mk a) o s₂ := hq
  rw [State.frames_setTop' g h.top] at hend
  obtain ⟨g₀, hg0⟩ := Option.isSome_iff_exists.mp h.top
  obtain ⟨r, hr⟩ := State.topJava?_eq_some.mp hg0
  have hr' : (({ U with heap := s₂.heap, slotsUsed := s₂.slotsUsed } : State).setVm s₂.vm).frames = .java g₀ :: r := hr
  rcases hq' with ⟨hqc, L, hfe, hL⟩ | ⟨q, rfl, E, ce, L, hx, hce, hcv, hcl, hW₂, hsm, hL⟩
  · obtain ⟨⟨v, rfl⟩, hW₂, e2, q2, q3, q4, q5, q6⟩ := id hfe
    have e3 : s₂ = ({ (U.calling g mk a).setFrames s₂.frames with heap := s₂.heap, slotsUsed := s₂.slotsUsed } : State).setVm s₂.vm := by
      have : s₂ = ({ s₂ with vm := (U.calling g mk a).vm } : State).setVm s₂.vm := rfl
      rw [e2] at this
      exact this
    obtain ⟨c₂, i₂, len₂, hc₂, hd₂, hf₂⟩ := hend
    have hW' : U.WarmedH s₂.vm := hW₂
    have hcc : c₂ = c := by
      have h1 : s₂.code? g.method = U.code? g.method := by
        rw [State.code?_eq, State.code?_eq, hW'.alike.method?]
      exact Option.some.inj (hc₂.symm.trans (h1.trans h.code))
    subst hcc
    have hlen : len₂ = len := by rw [hdg] at hd₂; cases hd₂; rfl
    subst hlen
    have hs₂ : s₂ = (({ U with heap := s₂.heap, slotsUsed := s₂.slotsUsed } : State).setVm s₂.vm).setTop { g with pc := g.pc + len₂, stack := v.toList ++ g.stack } := by
      refine e3.trans ?_
      rw [hf₂, State.calling_eq h.top, State.setFrames_setFrames, State.setTop_of_frames _ hr', hr]
      rfl
    have hsame : U.sameButNew ({ U with heap := s₂.heap, slotsUsed := s₂.slotsUsed } : State) L mc ms := by
      refine ⟨?_, q2, q3, q4, q5, q6⟩
      obtain ⟨t, ht, -⟩ := State.frames_cons hr
      show ({ U with heap := s₂.heap, slotsUsed := s₂.slotsUsed } : State) = { U.setFrames U.frames with heap := s₂.heap, slotsUsed := s₂.slotsUsed }
      rw [State.setFrames_self ht]
    subst hg
    refine Or.inl ⟨v, ⟨(({ U with heap := s₂.heap, slotsUsed := s₂.slotsUsed } : State).setVm s₂.vm), Ls ++ L, c0 + mc, s0 + ms⟩,
      ⟨X.admits, X.cas, X.clock, X.frames, X.room, X.hears, X.method, X.code, (X.here.setHeapUsed s₂.heap s₂.slotsUsed).setVm hW'.alike, X.tail, State.WarmedH.trans X.warmed hW', X.limits, X.bytes, X.same.trans (hsame.setVm s.vm)⟩,
      ⟨g, mk, s₂, L, rfl, rfl, hqc, rfl, hL, rfl, rfl⟩, ?_⟩
    show Steps p.tables e below _ ((({ U with heap := s₂.heap, slotsUsed := s₂.slotsUsed } : State).setVm s₂.vm).setTop { g with pc := g.pc + len₂, stack := v.toList ++ g.stack })
    rw [← hs₂]
    exact hsteps
  · obtain ⟨e2, q2, q3, q4, q5, q6⟩ := id hsm
    have e3 : s₂ = ({ (U.calling g mk a).setFrames s₂.frames with heap := s₂.heap, slotsUsed := s₂.slotsUsed } : State).setVm s₂.vm := by
      have : s₂ = ({ s₂ with vm := (U.calling g mk a).vm } : State).setVm s₂.vm := rfl
      rw [e2] at this
      exact this
    have hf₂ : s₂.frames = .throwing q :: .java g :: U.frames.tail := hend
    have hW' : U.WarmedH s₂.vm := hW₂
    have hs₂ : s₂ = ((({ U with heap := s₂.heap, slotsUsed := s₂.slotsUsed } : State).setVm s₂.vm).setTop g).pushFrame (.throwing q) := by
      refine e3.trans ?_
      rw [hf₂, State.calling_eq h.top, State.setFrames_setFrames, State.pushFrame, State.frames_setTop _ hr', State.setTop_of_frames _ hr', State.setFrames_setFrames, hr]
      rfl
    have hsame : U.sameButNew ({ U with heap := s₂.heap, slotsUsed := s₂.slotsUsed } : State) L mc ms := by
      refine ⟨?_, q2, q3, q4, q5, q6⟩
      obtain ⟨t, ht, -⟩ := State.frames_cons hr
      show ({ U with heap := s₂.heap, slotsUsed := s₂.slotsUsed } : State) = { U.setFrames U.frames with heap := s₂.heap, slotsUsed := s₂.slotsUsed }
      rw [State.setFrames_self ht]
    subst hg
    refine Or.inr ⟨q, ⟨(({ U with heap := s₂.heap, slotsUsed := s₂.slotsUsed } : State).setVm s₂.vm), Ls ++ L, c0 + mc, s0 + ms⟩,
      ⟨X.admits, X.cas, X.clock, X.frames, X.room, X.hears, X.method, X.code, (X.here.setHeapUsed s₂.heap s₂.slotsUsed).setVm hW'.alike, X.tail, State.WarmedH.trans X.warmed hW', X.limits, X.bytes, X.same.trans (hsame.setVm s.vm)⟩,
      ⟨g, mk, s₂, L, E, ce, rfl, rfl, hx, hce, hcv, hcl, rfl, hL, rfl, rfl⟩, ?_⟩
    show Steps p.tables e below _ (((({ U with heap := s₂.heap, slotsUsed := s₂.slotsUsed } : State).setVm s₂.vm).setTop g).pushFrame (.throwing q))
    rw [← hs₂]
    exact hsteps
end
variable {p : Program} {l : Launch} {e : Env} {R : Room} {s : State} {m : MethodId} {args : Array Value} {below : List Frame} {meth : Method} {c : Code} {T : State} {H : Heap} {locs : List Loc} {cells slots : Nat}
theorem vx_callVX (X : Stand p l e R s m args below meth c T locs cells slots) (hexec : p.tables.exec = Jvm.exec) {own C : String} {index : Nat} {y : MethodName} {bytes : ByteArray} {maxL : Nat} {ret : Option FieldType} {hh : List (Nat × Nat × Nat × Nat)}
    (hown : s.vm.findClass own = some m.cls) (hlink : (Cond.methodLink own index y).before args s = true) (hinst : (Cond.instanceMethod y).before args s = true) (hsel : (Cond.selects C y y).before args s = true)
    (hcode : (Cond.codeWith y bytes maxL ret hh).before args s = true) (hy : y.cls ≠ "java/lang/invoke/MethodHandle" ∧ y.cls ≠ "java/lang/invoke/VarHandle")
    {W9 : Nat} {Pre : Pt → Array Value → Prop} {Post : Pt → Array Value → Option Value → Pt → Prop} {PostX : Pt → Array Value → Addr → Pt → Prop} (hK : vx_Back l R p e below s args y 3 W9 Pre Post PostX)
    {b : Addr} {cellB : Cell} (hcell : T.heap[b]? = some cellB) (hobj : cellB.vm.isStatics = false) (hcls : s.vm.findClass C = some cellB.cls)
    {g : JFrame} (hg : g.method = m) (hsize : g.locals.size = c.maxLocals) {argsL rest : List Value} (hlen : ∀ sig, parseMethodDescriptor y.desc = some sig → argsL.length = sig.parameters.length)
    (hstack : g.stack = argsL.reverse ++ .ref b :: rest) (hW : 2 * g.monitorRoom + (rest.map fun v => v.category).sum ≤ W9) (hdg : decode c.code g.pc = .ok (.invokevirtual index, 3))
    (hpre : ∀ vm₁, s.WarmedH vm₁ → Pre ⟨T.setVm vm₁, locs, cells, slots⟩ (Value.ref b :: argsL).toArray) :
    (∃ (v : Option Value) (vm₁ : Vm) (B : Pt), s.WarmedH vm₁ ∧ Stand p l e R s m args below meth c B.U B.locs B.cells B.slots ∧ Post ⟨T.setVm vm₁, locs, cells, slots⟩ (Value.ref b :: argsL).toArray v B ∧
      ∀ target, Steps p.tables e below (B.U.setTop { g with pc := g.pc + 3, stack := v.toList ++ rest }) target → Steps p.tables e below (T.setTop g) target) ∨
    (∃ (q : Addr) (vm₁ : Vm) (B : Pt), s.WarmedH vm₁ ∧ Stand p l e R s m args below meth c B.U B.locs B.cells B.slots ∧ PostX ⟨T.setVm vm₁, locs, cells, slots⟩ (Value.ref b :: argsL).toArray q B ∧
      Steps p.tables e below (T.setTop g) ((B.U.setTop { g with stack := rest }).pushFrame (.throwing q))) := by
  obtain ⟨mk, methM, hnamed, hmethM, hstM, habM⟩ := Cond.instanceMethod_spec hinst
  obtain ⟨m8, methM', cM, hn8, hmethM', -, -, -, -, -, -, hsigM⟩ := Cond.codeWith_spec hcode
  cases Option.some.inj (hn8.symm.trans hnamed)
  cases hmethM.symm.trans hmethM'
  obtain ⟨c2, r2, m2, q1, q2, q3, q4, kP, hkP, hkPi⟩ := Cond.selects_spec hsel
  cases hcls.symm.trans q1
  cases (State.methodFound?_of_named hnamed hy).symm.trans q2
  cases hnamed.symm.trans q3
  have hselP : selectMethod e.platform s.vm cellB.cls mk = .method mk := by rw [Launch.admits_selectMethod X.admits]; exact q4
  obtain ⟨vm₁, X₁, hstep₁⟩ := X.invokevirtual hexec hown hlink hnamed hmethM hstM hkP hkPi hy (a := b) (cell := cellB) hcell
    (fun z h => by rw [h] at hobj; cases hobj) hselP hmethM habM hkP hkPi (g := g) hg (argsL := argsL) (rest := rest) (hlen _ hsigM) hstack hdg
  rcases hK m meth c ⟨T.setVm vm₁, locs, cells, slots⟩ { g with stack := rest } (.invokevirtual index) mk (Value.ref b :: argsL).toArray X₁ hg hsize hdg hW (X₁.named hnamed) (hpre vm₁ X₁.warmed) with ⟨v, B, X', hpost, hsteps⟩ | ⟨q, B, X', hpost, hsteps⟩
  · exact Or.inl ⟨v, vm₁, B, X₁.warmed, X', hpost, fun target h => hstep₁ _ fun acts => by rw [doInvoke_state]; exact hsteps.trans h⟩
  · exact Or.inr ⟨q, vm₁, B, X₁.warmed, X', hpost, hstep₁ _ fun acts => by rw [doInvoke_state]; exact hsteps⟩
theorem vx_callSX (X : Stand p l e R s m args below meth c T locs cells slots) (hexec : p.tables.exec = Jvm.exec) {own : String} {index : Nat} {y : MethodName} {bytes : ByteArray} {maxL : Nat} {ret : Option FieldType} {hh : List (Nat × Nat × Nat × Nat)}
    (hown : s.vm.findClass own = some m.cls) (hlink : (Cond.methodLink own index y).before args s = true) (hstat : (Cond.static y).before args s = true) (hinit : (Cond.initialized y.cls).before args s = true)
    (hcode : (Cond.codeWith y bytes maxL ret hh).before args s = true) (hy : y.cls ≠ "java/lang/invoke/MethodHandle" ∧ y.cls ≠ "java/lang/invoke/VarHandle")
    {W9 : Nat} {Pre : Pt → Array Value → Prop} {Post : Pt → Array Value → Option Value → Pt → Prop} {PostX : Pt → Array Value → Addr → Pt → Prop} (hK : vx_Back l R p e below s args y 3 W9 Pre Post PostX)
    {g : JFrame} (hg : g.method = m) (hsize : g.locals.size = c.maxLocals) {argsL rest : List Value} (hlen : ∀ sig, parseMethodDescriptor y.desc = some sig → argsL.length = sig.parameters.length)
    (hstack : g.stack = argsL.reverse ++ rest) (hW : 2 * g.monitorRoom + (rest.map fun v => v.category).sum ≤ W9) (hdg : decode c.code g.pc = .ok (.invokestatic index, 3))
    (hpre : ∀ vm₁, s.WarmedH vm₁ → Pre ⟨T.setVm vm₁, locs, cells, slots⟩ argsL.toArray) :
    (∃ (v : Option Value) (vm₁ : Vm) (B : Pt), s.WarmedH vm₁ ∧ Stand p l e R s m args below meth c B.U B.locs B.cells B.slots ∧ Post ⟨T.setVm vm₁, locs, cells, slots⟩ argsL.toArray v B ∧
      ∀ target, Steps p.tables e below (B.U.setTop { g with pc := g.pc + 3, stack := v.toList ++ rest }) target → Steps p.tables e below (T.setTop g) target) ∨
    (∃ (q : Addr) (vm₁ : Vm) (B : Pt), s.WarmedH vm₁ ∧ Stand p l e R s m args below meth c B.U B.locs B.cells B.slots ∧ PostX ⟨T.setVm vm₁, locs, cells, slots⟩ argsL.toArray q B ∧
      Steps p.tables e below (T.setTop g) ((B.U.setTop { g with stack := rest }).pushFrame (.throwing q))) := by
  obtain ⟨mk, methM, cM, hnamed, hmethM, -, -, -, -, -, -, hsigM⟩ := Cond.codeWith_spec hcode
  have hstatic : methM.isStatic = true := Cond.static_spec hnamed hmethM hstat
  obtain ⟨kP, hkP, -⟩ := className_of_methodNamed hnamed
  have hinitP : kP.init = .initialized := Cond.initialized_spec (findClass_of_methodNamed hnamed) hkP hinit
  obtain ⟨vm₁, X₁, hstep₁⟩ := X.invokestatic hexec hown hlink hnamed hmethM hstatic hkP hinitP hy (g := g) hg (argsL := argsL) (rest := rest) (hlen _ hsigM) hstack hdg
  rcases hK m meth c ⟨T.setVm vm₁, locs, cells, slots⟩ { g with stack := rest } (.invokestatic index) mk argsL.toArray X₁ hg hsize hdg hW (X₁.named hnamed) (hpre vm₁ X₁.warmed) with ⟨v, B, X', hpost, hsteps⟩ | ⟨q, B, X', hpost, hsteps⟩
  · exact Or.inl ⟨v, vm₁, B, X₁.warmed, X', hpost, fun target h => hstep₁ _ fun acts => by rw [doInvoke_state]; exact hsteps.trans h⟩
  · exact Or.inr ⟨q, vm₁, B, X₁.warmed, X', hpost, hstep₁ _ fun acts => by rw [doInvoke_state]; exact hsteps⟩
theorem vx_callVW (X : Stand p l e R s m args below meth c T locs cells slots) (hexec : p.tables.exec = Jvm.exec) {own C : String} {index : Nat} {y : MethodName} {bytes : ByteArray} {maxL : Nat} {ret : Option FieldType} {hh : List (Nat × Nat × Nat × Nat)}
    (hown : s.vm.findClass own = some m.cls) (hlink : (Cond.methodLink own index y).before args s = true) (hinst : (Cond.instanceMethod y).before args s = true) (hsel : (Cond.selects C y y).before args s = true)
    (hcode : (Cond.codeWith y bytes maxL ret hh).before args s = true) (hy : y.cls ≠ "java/lang/invoke/MethodHandle" ∧ y.cls ≠ "java/lang/invoke/VarHandle")
    {W9 : Nat} {Pre : Pt → Array Value → Prop} {Post : Pt → Array Value → Option Value → Pt → Prop} (hK : Back l R p e below s args y 3 W9 Pre Post)
    {b : Addr} {cellB : Cell} (hcell : T.heap[b]? = some cellB) (hobj : cellB.vm.isStatics = false) (hcls : s.vm.findClass C = some cellB.cls)
    {g : JFrame} (hg : g.method = m) (hsize : g.locals.size = c.maxLocals) {argsL rest : List Value} (hlen : ∀ sig, parseMethodDescriptor y.desc = some sig → argsL.length = sig.parameters.length)
    (hstack : g.stack = argsL.reverse ++ .ref b :: rest) (hW : 2 * g.monitorRoom + (rest.map fun v => v.category).sum ≤ W9) (hdg : decode c.code g.pc = .ok (.invokevirtual index, 3))
    (hpre : ∀ vm₁, s.WarmedH vm₁ → Pre ⟨T.setVm vm₁, locs, cells, slots⟩ (Value.ref b :: argsL).toArray) :
    ∃ (v : Option Value) (vm₁ : Vm) (B : Pt), s.WarmedH vm₁ ∧ Stand p l e R s m args below meth c B.U B.locs B.cells B.slots ∧ Post ⟨T.setVm vm₁, locs, cells, slots⟩ (Value.ref b :: argsL).toArray v B ∧
      ∀ target, Steps p.tables e below (B.U.setTop { g with pc := g.pc + 3, stack := v.toList ++ rest }) target → Steps p.tables e below (T.setTop g) target := by
  obtain ⟨mk, methM, hnamed, hmethM, hstM, habM⟩ := Cond.instanceMethod_spec hinst
  obtain ⟨m8, methM', cM, hn8, hmethM', -, -, -, -, -, -, hsigM⟩ := Cond.codeWith_spec hcode
  cases Option.some.inj (hn8.symm.trans hnamed)
  cases hmethM.symm.trans hmethM'
  obtain ⟨c2, r2, m2, q1, q2, q3, q4, kP, hkP, hkPi⟩ := Cond.selects_spec hsel
  cases hcls.symm.trans q1
  cases (State.methodFound?_of_named hnamed hy).symm.trans q2
  cases hnamed.symm.trans q3
  have hselP : selectMethod e.platform s.vm cellB.cls mk = .method mk := by rw [Launch.admits_selectMethod X.admits]; exact q4
  obtain ⟨vm₁, X₁, hstep₁⟩ := X.invokevirtual hexec hown hlink hnamed hmethM hstM hkP hkPi hy (a := b) (cell := cellB) hcell
    (fun z h => by rw [h] at hobj; cases hobj) hselP hmethM habM hkP hkPi (g := g) hg (argsL := argsL) (rest := rest) (hlen _ hsigM) hstack hdg
  obtain ⟨v, B, X', hpost, hsteps⟩ := hK m meth c ⟨T.setVm vm₁, locs, cells, slots⟩ { g with stack := rest } (.invokevirtual index) mk (Value.ref b :: argsL).toArray X₁ hg hsize hdg hW (X₁.named hnamed) (hpre vm₁ X₁.warmed)
  exact ⟨v, vm₁, B, X₁.warmed, X', hpost, fun target h => hstep₁ _ fun acts => by rw [doInvoke_state]; exact hsteps.trans h⟩
abbrev vx_CVW (R : Room) (s : State) (args : Array Value) (own C : String) (index : Nat) (y : MethodName) (bytes : ByteArray) (maxL : Nat) (ret : Option FieldType) (hh : List (Nat × Nat × Nat × Nat)) (ws : List Cond) (rm : Room) (mc ms n : Nat) : Prop :=
  (rm.cells = mc ∧ rm.slots = ms ∧ rm.frames + 1 ≤ R.frames ∧ 8 + (maxL + 11) + rm.locals ≤ R.locals ∧ (∀ w ∈ ws, ∀ (a' : Array Value) (U : State), s.WarmedH U.vm → w.before a' U = true) ∧ Cond.codeWith y bytes maxL ret hh ∈ ws) ∧
  (Cond.codeWith y bytes maxL ret hh).before args s = true ∧ (Cond.initialized y.cls).before args s = true ∧ (y.cls ≠ "java/lang/invoke/MethodHandle" ∧ y.cls ≠ "java/lang/invoke/VarHandle") ∧
  (∀ sig, parseMethodDescriptor y.desc = some sig → n = sig.parameters.length) ∧ (Cond.methodLink own index y).before args s = true ∧ (Cond.instanceMethod y).before args s = true ∧ (Cond.selects C y y).before args s = true
theorem vx_cwVW {own C : String} {index maxL mc ms : Nat} {y : MethodName} {bytes : ByteArray} {ret : Option FieldType} {hh : List (Nat × Nat × Nat × Nat)} {Ts ws ws' : List Cond} {rm : Room} (n : Nat) (ht : ∀ w ∈ Ts, w.before args s = true) (hT : GoodIn Ts (wsV own index C y ws)) (hw : ws = Cond.codeWith y bytes maxL ret hh :: ws') (hrc : rm.cells = mc) (hrs : rm.slots = ms)
    (hd : y.cls = C ∧ y.cls ≠ "java/lang/invoke/MethodHandle" ∧ y.cls ≠ "java/lang/invoke/VarHandle" ∧ (parseMethodDescriptor y.desc).map (fun d => d.parameters.length) = some n) (hR : rm.frames + 1 ≤ R.frames ∧ 8 + (maxL + 11) + rm.locals ≤ R.locals) :
    vx_CVW R s args own C index y bytes maxL ret hh ws rm mc ms n := by
  obtain ⟨hC, hd⟩ := hd
  subst hC
  have ok : ∀ w ∈ wsV own index y.cls y ws, w.before args s = true := fun w h => ht w (hT w h).1
  have hG : GoodIn Ts ws := fun w h => hT w (by unfold wsV; exact List.mem_append_right _ h)
  have hc : Cond.codeWith y bytes maxL ret hh ∈ ws := by rw [hw]; exact List.mem_cons_self
  refine ⟨⟨hrc, hrs, hR.1, hR.2, pay_in ht hG, hc⟩, ht _ (hG _ hc).1, ok _ (by simp [wsV]), ⟨hd.1, hd.2.1⟩, fun sig h => ?_, ok _ (by simp [wsV]), ok _ (by simp [wsV]), ok _ (by simp [wsV])⟩
  have h2 := hd.2.2
  rw [h] at h2
  exact (Option.some.inj h2).symm
theorem vx_runVW {y : MethodName} {bytes cc : ByteArray} {maxL nL mc ms n index : Nat} {ret : Option FieldType} {hh : List (Nat × Nat × Nat × Nat)} {ws : List Cond} {rm : Room} {Pc : Array Value → State → Prop} {Qc : Array Value → State → Outcome → State → Prop} {free : Addr → Prop} {Ts : List Cond} {own C : String} {b : Addr} {As rest : List Value} {g : JFrame}
    (S : CallFix p m c cc nL s args Ts own) (hM : Met l y ws rm Pc Qc mc ms free) (cw : vx_CVW R s args own C index y bytes maxL ret hh ws rm mc ms n) (hp : PreV s H C b Pc As)
    (hg : g.method = m) (hn : As.length = n) (hsize : g.locals.size = nL) (hstack : g.stack = As.reverse ++ .ref b :: rest) (hW : 2 * g.monitorRoom + (rest.map fun v => v.category).sum ≤ 8) (hdg : decode cc g.pc = .ok (.invokevirtual index, 3)) (hf : cells + mc ≤ R.cells ∧ slots + ms ≤ R.slots) :
    va_Run p l e R s m args below meth c H locs cells slots mc ms g rest (Qc (Value.ref b :: As).toArray) free := by
  obtain ⟨⟨hrc, hrs, hfr, hlo, hws, hcw⟩, hcode, hini, hy, hlen, hl, hin, hse⟩ := cw
  have hK : Back l R p e below s args y 3 8 (PreOf R mc ms Pc) (PostOf Qc mc ms free) := va_backW (hh := hh) (bytes := bytes) (maxL := maxL) (ret := ret) hM hp.1 hrc hrs hfr hlo hws hcw (fun a' U hW => word_at hW (Or.inl (by first | rfl | simp [Cond.onTables, Cond.keeps, Cond.steady])) hini)
  obtain ⟨hx, hb, hml, ho, -⟩ := S
  obtain ⟨-, ⟨cellB, hcB, hoB, hclB⟩, hPc⟩ := hp
  intro T hT X
  obtain ⟨v, vm₁, ⟨U', l2, c2, s2⟩, hW₁, X', ⟨g', mk, t, L, e1, e2, hq, h1, hL, h2, h3⟩, st⟩ := vx_callVW X hx (C := C) (hh := hh) (bytes := bytes) (maxL := maxL) (ret := ret) ho hl hin hse hcode hy hK (by rw [hT]; exact hcB) hoB hclB hg (hsize.trans hml.symm) (argsL := As) (rest := rest) (fun sig h => hn.trans (hlen sig h)) hstack hW (by rw [hb]; exact hdg)
    (fun vm₁ hW₁ => ⟨hf.1, hf.2, hPc (T.setVm vm₁) hT hW₁⟩)
  dsimp only [Pt.U, Pt.locs, Pt.cells, Pt.slots] at X' e1 e2 h1 h2 h3 st
  subst h1; subst h2; subst h3
  exact ⟨v, (T.setVm vm₁).calling g' mk (Value.ref b :: As).toArray, t, U', L, hT, X', hL, e1, e2, hq, st⟩
section
variable {y : MethodName} {bytes cc : ByteArray} {maxL nL mc ms n index : Nat} {ret : Option FieldType} {ws : List Cond} {rm : Room} {Pc : Array Value → State → Prop} {Qc : Array Value → State → Outcome → State → Prop} {XC : String → State → State → Prop} {free : Addr → Prop} {Ts : List Cond} {own C : String} {b : Addr} {As rest : List Value} {g : JFrame}
theorem vx_runVX {hh : List (Nat × Nat × Nat × Nat)} (S : CallFix p m c cc nL s args Ts own) (hM : vx_Met l y ws rm Pc Qc XC mc ms free) (cw : vx_CVW R s args own C index y bytes maxL ret hh ws rm mc ms n) (hp : PreV s H C b Pc As)
    (hg : g.method = m) (hn : As.length = n) (hsize : g.locals.size = nL) (hstack : g.stack = As.reverse ++ .ref b :: rest) (hW : 2 * g.monitorRoom + (rest.map fun v => v.category).sum ≤ 8) (hdg : decode cc g.pc = .ok (.invokevirtual index, 3)) (hf : cells + mc ≤ R.cells ∧ slots + ms ≤ R.slots) :
    vx_Run p l e R s m args below meth c H locs cells slots mc ms g rest (Qc (Value.ref b :: As).toArray) XC free := by
  obtain ⟨⟨hrc, hrs, hfr, hlo, hws, hcw⟩, hcode, hini, hy, hlen, hl, hin, hse⟩ := cw
  have hK : vx_Back l R p e below s args y 3 8 (PreOf R mc ms Pc) (PostOf Qc mc ms free) (vx_Post XC mc ms free) := vx_backW (hh := hh) (bytes := bytes) (maxL := maxL) (ret := ret) hM hp.1 hrc hrs hfr hlo hws hcw (fun a' U hW => word_at hW (Or.inl (by first | rfl | simp [Cond.onTables, Cond.keeps, Cond.steady])) hini)
  obtain ⟨hx, hb, hml, ho, -⟩ := S
  obtain ⟨-, ⟨cellB, hcB, hoB, hclB⟩, hPc⟩ := hp
  intro T hT X
  rcases vx_callVX X hx (C := C) (hh := hh) (bytes := bytes) (maxL := maxL) (ret := ret) ho hl hin hse hcode hy hK (by rw [hT]; exact hcB) hoB hclB hg (hsize.trans hml.symm) (argsL := As) (rest := rest) (fun sig h => hn.trans (hlen sig h)) hstack hW (by rw [hb]; exact hdg)
    (fun vm₁ hW₁ => ⟨hf.1, hf.2, hPc (T.setVm vm₁) hT hW₁⟩) with ⟨v, vm₁, ⟨U', l2, c2, s2⟩, hW₁, X', ⟨g', mk, t, L, e1, e2, hq, h1, hL, h2, h3⟩, st⟩ | ⟨q, vm₁, ⟨U', l2, c2, s2⟩, hW₁, X', ⟨g', mk, t, L, E, ce, e1, e2, hq, hce, hcv, hcl, h1, hL, h2, h3⟩, st⟩
  · dsimp only [Pt.U, Pt.locs, Pt.cells, Pt.slots] at X' e1 e2 h1 h2 h3 st
    subst h1; subst h2; subst h3
    exact Or.inl ⟨v, (T.setVm vm₁).calling g' mk (Value.ref b :: As).toArray, t, U', L, hT, X', hL, e1, e2, hq, st⟩
  · dsimp only [Pt.U, Pt.locs, Pt.cells, Pt.slots] at X' e1 e2 h1 h2 h3 st hcl
    subst h1; subst h2; subst h3
    exact Or.inr ⟨q, (T.setVm vm₁).calling g' mk (Value.ref b :: As).toArray, t, U', L, E, ce, hT, X', hL, e1, e2, hq, hce, hcv, vx_cls hW₁ hcl, st⟩
theorem vx_runSX {hh : List (Nat × Nat × Nat × Nat)} (S : CallFix p m c cc nL s args Ts own) (hM : vx_Met l y ws rm Pc Qc XC mc ms free) (cw : vx_CSW R s args own index y bytes maxL ret hh ws rm mc ms n) (hp : PreS s H Pc As)
    (hg : g.method = m) (hn : As.length = n) (hsize : g.locals.size = nL) (hstack : g.stack = As.reverse ++ rest) (hW : 2 * g.monitorRoom + (rest.map fun v => v.category).sum ≤ 8) (hdg : decode cc g.pc = .ok (.invokestatic index, 3)) (hf : cells + mc ≤ R.cells ∧ slots + ms ≤ R.slots) :
    vx_Run p l e R s m args below meth c H locs cells slots mc ms g rest (Qc As.toArray) XC free := by
  obtain ⟨⟨hrc, hrs, hfr, hlo, hws, hcw⟩, hcode, hini, hy, hlen, hl, hstt⟩ := cw
  have hK : vx_Back l R p e below s args y 3 8 (PreOf R mc ms Pc) (PostOf Qc mc ms free) (vx_Post XC mc ms free) := vx_backW (hh := hh) (bytes := bytes) (maxL := maxL) (ret := ret) hM hp.1 hrc hrs hfr hlo hws hcw (fun a' U hW => word_at hW (Or.inl (by first | rfl | simp [Cond.onTables, Cond.keeps, Cond.steady])) hini)
  obtain ⟨hx, hb, hml, ho, -⟩ := S
  intro T hT X
  rcases vx_callSX X hx (hh := hh) (bytes := bytes) (maxL := maxL) (ret := ret) ho hl hstt hini hcode hy hK hg (hsize.trans hml.symm) (argsL := As) (rest := rest) (fun sig h => hn.trans (hlen sig h)) hstack hW (by rw [hb]; exact hdg)
    (fun vm₁ hW₁ => ⟨hf.1, hf.2, hp.2 (T.setVm vm₁) hT hW₁⟩) with ⟨v, vm₁, ⟨U', l2, c2, s2⟩, hW₁, X', ⟨g', mk, t, L, e1, e2, hq, h1, hL, h2, h3⟩, st⟩ | ⟨q, vm₁, ⟨U', l2, c2, s2⟩, hW₁, X', ⟨g', mk, t, L, E, ce, e1, e2, hq, hce, hcv, hcl, h1, hL, h2, h3⟩, st⟩
  · dsimp only [Pt.U, Pt.locs, Pt.cells, Pt.slots] at X' e1 e2 h1 h2 h3 st
    subst h1; subst h2; subst h3
    exact Or.inl ⟨v, (T.setVm vm₁).calling g' mk As.toArray, t, U', L, hT, X', hL, e1, e2, hq, st⟩
  · dsimp only [Pt.U, Pt.locs, Pt.cells, Pt.slots] at X' e1 e2 h1 h2 h3 st hcl
    subst h1; subst h2; subst h3
    exact Or.inr ⟨q, (T.setVm vm₁).calling g' mk As.toArray, t, U', L, E, ce, hT, X', hL, e1, e2, hq, hce, hcv, vx_cls hW₁ hcl, st⟩
end
end VXH
theorem vx_ofWH {l : Launch} {y : MethodName} {ws ws' : List Cond} {rm : Room} {Pc : Array Value → State → Prop} {Qc : Array Value → State → Outcome → State → Prop} {XC : String → State → State → Prop} {mc ms : Nat} {free : Addr → Prop} {cc : ByteArray} {maxL : Nat} {ret : Option FieldType} {hh : List (Nat × Nat × Nat × Nat)}
    (hy : plainName y.cls = true) (hw : ws = Cond.codeWith y cc maxL ret hh :: ws')
    (body : ∀ p e s m args below meth c s₁, BodyLoose p l y (headSpec ws rm) cc maxL ret e s m args below meth c s₁ → c.maxLocals = maxL → Pc args s →
      W p l e (headSpec ws rm).room s m args below meth c s.heap [] 0 0 (vx_MQ below Qc XC args s mc ms free) (entryFrame m args maxL)) : vx_Met l y ws rm Pc Qc XC mc ms free := by
  refine MetFree.of_bodyS (code := cc) (maxLocals := maxL) (ret := ret) hy ?_ ?_
  · intro args s m h hn
    obtain ⟨m9, meth, c, hn9, h1, h2, h3, h4, -, h5, h6, -⟩ := Cond.codeWith_spec (atoms_spec (ws := ws) h _ (by rw [hw]; exact List.mem_cons_self))
    cases hn.symm.trans hn9
    exact ⟨meth, c, h1, h2, h3, h4, h5, h6⟩
  · intro p e s m args below meth c s₁ B hml hP _
    have hh0 : s₁.heap = s.heap := by rw [B.state]; rfl
    obtain ⟨t, a1, o, b1, b2, b3⟩ := body p e s m args below meth c s₁ B hml hP s₁ hh0 (Stand.of_body B)
    exact ⟨t, o, a1, b1, b2, b3⟩
/-! ===== END ===== -/

/-! ===== BEGIN printed: names, fields, word lists, decode rows ===== -/
def RX0 : String := "LanternDesk$Album"
def TX0 : u_T := fun k => match k with
  | 0 => ("LanternDesk$Album", "papers", "Ljava/util/ArrayList;", true)
  | _ => ("LanternDesk$Album", "kept", "Ljava/util/ArrayList;", true)
def tyX0 : Nat → FieldType := fun k => match k with
  | 0 => .object "java/util/ArrayList"
  | _ => .object "java/util/ArrayList"
abbrev wsX00 : List Cond := u_ws RX0 TX0 2
theorem nmX0 : ∀ a, a < 2 → ∀ b, b < 2 → a ≠ b → (TX0 a).2.1 ≠ (TX0 b).2.1 := by decide +kernel
theorem tyX0_ok : ∀ k, k < 2 → parseFieldDescriptor (TX0 k).2.2.1 = some (tyX0 k) := by decide +kernel
abbrev cX0_init : ByteArray := prog_2_method_1_code
def yX0_init : MethodName := ⟨RX0, "<init>", "()V"⟩
abbrev cX0_countTaken : ByteArray := prog_2_method_2_code
def yX0_countTaken : MethodName := ⟨RX0, "countTaken", "()I"⟩
abbrev cX0_countKept : ByteArray := prog_2_method_3_code
def yX0_countKept : MethodName := ⟨RX0, "countKept", "()I"⟩
abbrev cX0_take : ByteArray := prog_2_method_4_code
def yX0_take : MethodName := ⟨RX0, "take", "(IIII)V"⟩
abbrev cX0_keeps : ByteArray := prog_2_method_5_code
def yX0_keeps : MethodName := ⟨RX0, "keeps", "(III)Z"⟩
abbrev cX0_papersTell : ByteArray := prog_2_method_6_code
def yX0_papersTell : MethodName := ⟨RX0, "papersTell", "(IIII)Z"⟩
abbrev cX0_eraseDue : ByteArray := prog_2_method_7_code
def yX0_eraseDue : MethodName := ⟨RX0, "eraseDue", "(I)I"⟩
def RX1 : String := "LanternDesk$Escort"
def TX1 : u_T := fun k => match k with
  | 0 => ("LanternDesk$Escort", "number", "I", true)
  | 1 => ("LanternDesk$Escort", "street", "I", false)
  | 2 => ("LanternDesk$Escort", "rank", "I", false)
  | _ => ("LanternDesk$Escort", "isFree", "Z", false)
def tyX1 : Nat → FieldType := fun k => match k with
  | 0 => .int
  | 1 => .int
  | 2 => .int
  | _ => .boolean
abbrev wsX10 : List Cond := u_ws RX1 TX1 4
theorem nmX1 : ∀ a, a < 4 → ∀ b, b < 4 → a ≠ b → (TX1 a).2.1 ≠ (TX1 b).2.1 := by decide +kernel
theorem tyX1_ok : ∀ k, k < 4 → parseFieldDescriptor (TX1 k).2.2.1 = some (tyX1 k) := by decide +kernel
abbrev cX1_init : ByteArray := prog_3_method_1_code
def yX1_init : MethodName := ⟨RX1, "<init>", "(I)V"⟩
def RX2 : String := "LanternDesk$Picture"
def TX2 : u_T := fun k => match k with
  | 0 => ("LanternDesk$Picture", "street", "I", true)
  | 1 => ("LanternDesk$Picture", "walk", "I", true)
  | 2 => ("LanternDesk$Picture", "takenOn", "I", true)
  | _ => ("LanternDesk$Picture", "erasedOn", "I", true)
def tyX2 : Nat → FieldType := fun k => match k with
  | 0 => .int
  | 1 => .int
  | 2 => .int
  | _ => .int
abbrev wsX20 : List Cond := u_ws RX2 TX2 4
theorem nmX2 : ∀ a, a < 4 → ∀ b, b < 4 → a ≠ b → (TX2 a).2.1 ≠ (TX2 b).2.1 := by decide +kernel
theorem tyX2_ok : ∀ k, k < 4 → parseFieldDescriptor (TX2 k).2.2.1 = some (tyX2 k) := by decide +kernel
abbrev cX2_init : ByteArray := prog_4_method_1_code
def yX2_init : MethodName := ⟨RX2, "<init>", "(IIII)V"⟩
abbrev cX2_isOf : ByteArray := prog_4_method_2_code
def yX2_isOf : MethodName := ⟨RX2, "isOf", "(III)Z"⟩
def RX3 : String := "LanternDesk$Street"
def TX3 : u_T := fun k => match k with
  | 0 => ("LanternDesk$Street", "purse", "I", false)
  | 1 => ("LanternDesk$Street", "price", "I", false)
  | 2 => ("LanternDesk$Street", "hasCamera", "Z", false)
  | _ => ("LanternDesk$Street", "votes", "[I", true)
def tyX3 : Nat → FieldType := fun k => match k with
  | 0 => .int
  | 1 => .int
  | 2 => .boolean
  | _ => .array .int
abbrev wsX30 : List Cond := u_ws RX3 TX3 4
theorem nmX3 : ∀ a, a < 4 → ∀ b, b < 4 → a ≠ b → (TX3 a).2.1 ≠ (TX3 b).2.1 := by decide +kernel
theorem tyX3_ok : ∀ k, k < 4 → parseFieldDescriptor (TX3 k).2.2.1 = some (tyX3 k) := by decide +kernel
abbrev cX3_init : ByteArray := prog_5_method_1_code
def yX3_init : MethodName := ⟨RX3, "<init>", "()V"⟩
abbrev cX3_setVote : ByteArray := prog_5_method_2_code
def yX3_setVote : MethodName := ⟨RX3, "setVote", "(II)V"⟩
abbrev cX3_daysKept : ByteArray := prog_5_method_3_code
def yX3_daysKept : MethodName := ⟨RX3, "daysKept", "()I"⟩
def RX4 : String := "LanternDesk$Walk"
def TX4 : u_T := fun k => match k with
  | 0 => ("LanternDesk$Walk", "number", "I", true)
  | 1 => ("LanternDesk$Walk", "from", "I", true)
  | 2 => ("LanternDesk$Walk", "to", "I", true)
  | 3 => ("LanternDesk$Walk", "state", "I", false)
  | 4 => ("LanternDesk$Walk", "escort", "LLanternDesk$Escort;", false)
  | 5 => ("LanternDesk$Walk", "minutesInDark", "I", false)
  | _ => ("LanternDesk$Walk", "isJudged", "Z", false)
def tyX4 : Nat → FieldType := fun k => match k with
  | 0 => .int
  | 1 => .int
  | 2 => .int
  | 3 => .int
  | 4 => .object "LanternDesk$Escort"
  | 5 => .int
  | _ => .boolean
abbrev wsX40 : List Cond := u_ws RX4 TX4 7
theorem nmX4 : ∀ a, a < 7 → ∀ b, b < 7 → a ≠ b → (TX4 a).2.1 ≠ (TX4 b).2.1 := by decide +kernel
theorem tyX4_ok : ∀ k, k < 7 → parseFieldDescriptor (TX4 k).2.2.1 = some (tyX4 k) := by decide +kernel
abbrev cX4_init : ByteArray := prog_6_method_1_code
def yX4_init : MethodName := ⟨RX4, "<init>", "(III)V"⟩
def RX5 : String := "LanternDesk"
def TX5 : u_T := fun k => match k with
  | 0 => ("LanternDesk", "streets", "[LLanternDesk$Street;", true)
  | 1 => ("LanternDesk", "escorts", "[LLanternDesk$Escort;", true)
  | 2 => ("LanternDesk", "walks", "Ljava/util/ArrayList;", true)
  | 3 => ("LanternDesk", "album", "LLanternDesk$Album;", true)
  | 4 => ("LanternDesk", "day", "I", false)
  | _ => ("LanternDesk", "minute", "I", false)
def tyX5 : Nat → FieldType := fun k => match k with
  | 0 => .array (.object "LanternDesk$Street")
  | 1 => .array (.object "LanternDesk$Escort")
  | 2 => .object "java/util/ArrayList"
  | 3 => .object "LanternDesk$Album"
  | 4 => .int
  | _ => .int
abbrev wsX50 : List Cond := u_ws RX5 TX5 6
theorem nmX5 : ∀ a, a < 6 → ∀ b, b < 6 → a ≠ b → (TX5 a).2.1 ≠ (TX5 b).2.1 := by decide +kernel
theorem tyX5_ok : ∀ k, k < 6 → parseFieldDescriptor (TX5 k).2.2.1 = some (tyX5 k) := by decide +kernel
abbrev cX5_init : ByteArray := prog_1_method_1_code
def yX5_init : MethodName := ⟨RX5, "<init>", "()V"⟩
abbrev cX5_pay : ByteArray := prog_1_method_2_code
def yX5_pay : MethodName := ⟨RX5, "pay", "(II)I"⟩
abbrev cX5_setStreet : ByteArray := prog_1_method_3_code
def yX5_setStreet : MethodName := ⟨RX5, "setStreet", "(IIZ)I"⟩
abbrev cX5_vote : ByteArray := prog_1_method_4_code
def yX5_vote : MethodName := ⟨RX5, "vote", "(III)I"⟩
abbrev cX5_place : ByteArray := prog_1_method_5_code
def yX5_place : MethodName := ⟨RX5, "place", "(II)I"⟩
abbrev cX5_ask : ByteArray := prog_1_method_6_code
def yX5_ask : MethodName := ⟨RX5, "ask", "(II)I"⟩
abbrev cX5_pass : ByteArray := prog_1_method_7_code
def yX5_pass : MethodName := ⟨RX5, "pass", "(I)I"⟩
abbrev cX5_night : ByteArray := prog_1_method_8_code
def yX5_night : MethodName := ⟨RX5, "night", "()I"⟩
abbrev cX5_complain : ByteArray := prog_1_method_9_code
def yX5_complain : MethodName := ⟨RX5, "complain", "(IZ)I"⟩
abbrev cX5_day : ByteArray := prog_1_method_10_code
def yX5_day : MethodName := ⟨RX5, "day", "()I"⟩
abbrev cX5_minute : ByteArray := prog_1_method_11_code
def yX5_minute : MethodName := ⟨RX5, "minute", "()I"⟩
abbrev cX5_purse : ByteArray := prog_1_method_12_code
def yX5_purse : MethodName := ⟨RX5, "purse", "(I)I"⟩
abbrev cX5_walks : ByteArray := prog_1_method_13_code
def yX5_walks : MethodName := ⟨RX5, "walks", "()I"⟩
abbrev cX5_state : ByteArray := prog_1_method_14_code
def yX5_state : MethodName := ⟨RX5, "state", "(I)I"⟩
abbrev cX5_escortOf : ByteArray := prog_1_method_15_code
def yX5_escortOf : MethodName := ⟨RX5, "escortOf", "(I)I"⟩
abbrev cX5_dark : ByteArray := prog_1_method_16_code
def yX5_dark : MethodName := ⟨RX5, "dark", "(I)I"⟩
abbrev cX5_streetOf : ByteArray := prog_1_method_17_code
def yX5_streetOf : MethodName := ⟨RX5, "streetOf", "(I)I"⟩
abbrev cX5_rank : ByteArray := prog_1_method_18_code
def yX5_rank : MethodName := ⟨RX5, "rank", "(I)I"⟩
abbrev cX5_way : ByteArray := prog_1_method_19_code
def yX5_way : MethodName := ⟨RX5, "way", "(II)I"⟩
abbrev cX5_pictures : ByteArray := prog_1_method_20_code
def yX5_pictures : MethodName := ⟨RX5, "pictures", "()I"⟩
abbrev cX5_shows : ByteArray := prog_1_method_21_code
def yX5_shows : MethodName := ⟨RX5, "shows", "(III)Z"⟩
abbrev cX5_showsByPapers : ByteArray := prog_1_method_22_code
def yX5_showsByPapers : MethodName := ⟨RX5, "showsByPapers", "(III)Z"⟩
abbrev cX5_taken : ByteArray := prog_1_method_23_code
def yX5_taken : MethodName := ⟨RX5, "taken", "()I"⟩
abbrev cX5_isStreet : ByteArray := prog_1_method_24_code
def yX5_isStreet : MethodName := ⟨RX5, "isStreet", "(I)Z"⟩
abbrev cX5_findStreet : ByteArray := prog_1_method_25_code
def yX5_findStreet : MethodName := ⟨RX5, "findStreet", "(I)LLanternDesk$Street;"⟩
abbrev cX5_findEscort : ByteArray := prog_1_method_26_code
def yX5_findEscort : MethodName := ⟨RX5, "findEscort", "(I)LLanternDesk$Escort;"⟩
abbrev cX5_findWalk : ByteArray := prog_1_method_27_code
def yX5_findWalk : MethodName := ⟨RX5, "findWalk", "(I)LLanternDesk$Walk;"⟩
abbrev cX5_stepsUp : ByteArray := prog_1_method_28_code
def yX5_stepsUp : MethodName := ⟨RX5, "stepsUp", "(II)I"⟩
abbrev cX5_distance : ByteArray := prog_1_method_29_code
def yX5_distance : MethodName := ⟨RX5, "distance", "(II)I"⟩
abbrev cX5_oneStepOn : ByteArray := prog_1_method_30_code
def yX5_oneStepOn : MethodName := ⟨RX5, "oneStepOn", "(II)I"⟩
abbrev cX5_giveEscorts : ByteArray := prog_1_method_31_code
def yX5_giveEscorts : MethodName := ⟨RX5, "giveEscorts", "()V"⟩
abbrev cX5_bestFreeEscort : ByteArray := prog_1_method_32_code
def yX5_bestFreeEscort : MethodName := ⟨RX5, "bestFreeEscort", "(I)LLanternDesk$Escort;"⟩
abbrev cX5_isBetter : ByteArray := prog_1_method_33_code
def yX5_isBetter : MethodName := ⟨RX5, "isBetter", "(LLanternDesk$Escort;LLanternDesk$Escort;I)Z"⟩
abbrev cX5_goOn : ByteArray := prog_1_method_34_code
def yX5_goOn : MethodName := ⟨RX5, "goOn", "()I"⟩
abbrev cX5_move : ByteArray := prog_1_method_35_code
def yX5_move : MethodName := ⟨RX5, "move", "(LLanternDesk$Walk;LLanternDesk$Escort;)V"⟩
abbrev cX5_see : ByteArray := prog_1_method_36_code
def yX5_see : MethodName := ⟨RX5, "see", "(LLanternDesk$Walk;I)V"⟩
abbrev cX5_endIfThere : ByteArray := prog_1_method_37_code
def yX5_endIfThere : MethodName := ⟨RX5, "endIfThere", "(LLanternDesk$Walk;LLanternDesk$Escort;)I"⟩
abbrev cX5_areAllOver : ByteArray := prog_1_method_38_code
def yX5_areAllOver : MethodName := ⟨RX5, "areAllOver", "()Z"⟩
def RX6 : String := "LanternDeskModel"
def TX6 : u_T := fun k => match k with
  | _ => ("", "", "", false)
def tyX6 : Nat → FieldType := fun k => match k with
  | _ => .int
abbrev wsX60 : List Cond := u_ws RX6 TX6 0
theorem nmX6 : ∀ a, a < 0 → ∀ b, b < 0 → a ≠ b → (TX6 a).2.1 ≠ (TX6 b).2.1 := by decide +kernel
theorem tyX6_ok : ∀ k, k < 0 → parseFieldDescriptor (TX6 k).2.2.1 = some (tyX6 k) := by decide +kernel
def RJx145de : String := "java/io/Serializable"
def TJx145de : u_T := fun k => match k with
  | _ => ("", "", "", false)
def tyJx145de : Nat → FieldType := fun k => match k with
  | _ => .int
abbrev wsJx145de0 : List Cond := u_ws RJx145de TJx145de 0
theorem nmJx145de : ∀ a, a < 0 → ∀ b, b < 0 → a ≠ b → (TJx145de a).2.1 ≠ (TJx145de b).2.1 := by decide +kernel
theorem tyJx145de_ok : ∀ k, k < 0 → parseFieldDescriptor (TJx145de k).2.2.1 = some (tyJx145de k) := by decide +kernel
def RJx8e188 : String := "java/lang/Cloneable"
def TJx8e188 : u_T := fun k => match k with
  | _ => ("", "", "", false)
def tyJx8e188 : Nat → FieldType := fun k => match k with
  | _ => .int
abbrev wsJx8e1880 : List Cond := u_ws RJx8e188 TJx8e188 0
theorem nmJx8e188 : ∀ a, a < 0 → ∀ b, b < 0 → a ≠ b → (TJx8e188 a).2.1 ≠ (TJx8e188 b).2.1 := by decide +kernel
theorem tyJx8e188_ok : ∀ k, k < 0 → parseFieldDescriptor (TJx8e188 k).2.2.1 = some (tyJx8e188 k) := by decide +kernel
def RJxab1ab : String := "java/lang/Iterable"
def TJxab1ab : u_T := fun k => match k with
  | _ => ("", "", "", false)
def tyJxab1ab : Nat → FieldType := fun k => match k with
  | _ => .int
abbrev wsJxab1ab0 : List Cond := u_ws RJxab1ab TJxab1ab 0
theorem nmJxab1ab : ∀ a, a < 0 → ∀ b, b < 0 → a ≠ b → (TJxab1ab a).2.1 ≠ (TJxab1ab b).2.1 := by decide +kernel
theorem tyJxab1ab_ok : ∀ k, k < 0 → parseFieldDescriptor (TJxab1ab k).2.2.1 = some (tyJxab1ab k) := by decide +kernel
def RJ9 : String := "java/lang/Math"
def TJ9 : u_T := fun k => match k with
  | _ => ("", "", "", false)
def tyJ9 : Nat → FieldType := fun k => match k with
  | _ => .int
abbrev wsJ90 : List Cond := u_ws RJ9 TJ9 0
theorem nmJ9 : ∀ a, a < 0 → ∀ b, b < 0 → a ≠ b → (TJ9 a).2.1 ≠ (TJ9 b).2.1 := by decide +kernel
theorem tyJ9_ok : ∀ k, k < 0 → parseFieldDescriptor (TJ9 k).2.2.1 = some (tyJ9 k) := by decide +kernel
abbrev cJ9_floorMod_7cf53 : ByteArray := prog_16_method_50_code
def yJ9_floorMod_7cf53 : MethodName := ⟨RJ9, "floorMod", "(II)I"⟩
abbrev cJ9_max_7cf53 : ByteArray := prog_16_method_65_code
def yJ9_max_7cf53 : MethodName := ⟨RJ9, "max", "(II)I"⟩
abbrev cJ9_min_7cf53 : ByteArray := prog_16_method_69_code
def yJ9_min_7cf53 : MethodName := ⟨RJ9, "min", "(II)I"⟩
def RJ0 : String := "java/lang/String"
def TJ0 : u_T := fun k => match k with
  | _ => ("", "", "", false)
def tyJ0 : Nat → FieldType := fun k => match k with
  | _ => .int
abbrev wsJ00 : List Cond := u_ws RJ0 TJ0 0
theorem nmJ0 : ∀ a, a < 0 → ∀ b, b < 0 → a ≠ b → (TJ0 a).2.1 ≠ (TJ0 b).2.1 := by decide +kernel
theorem tyJ0_ok : ∀ k, k < 0 → parseFieldDescriptor (TJ0 k).2.2.1 = some (tyJ0 k) := by decide +kernel
def RJ10 : String := "java/lang/System"
def TJ10 : u_T := fun k => match k with
  | _ => ("", "", "", false)
def tyJ10 : Nat → FieldType := fun k => match k with
  | _ => .int
abbrev wsJ100 : List Cond := u_ws RJ10 TJ10 0
theorem nmJ10 : ∀ a, a < 0 → ∀ b, b < 0 → a ≠ b → (TJ10 a).2.1 ≠ (TJ10 b).2.1 := by decide +kernel
theorem tyJ10_ok : ∀ k, k < 0 → parseFieldDescriptor (TJ10 k).2.2.1 = some (tyJ10 k) := by decide +kernel
def RJxa1e45 : String := "java/util/AbstractCollection"
def TJxa1e45 : u_T := fun k => match k with
  | _ => ("", "", "", false)
def tyJxa1e45 : Nat → FieldType := fun k => match k with
  | _ => .int
abbrev wsJxa1e450 : List Cond := u_ws RJxa1e45 TJxa1e45 0
theorem nmJxa1e45 : ∀ a, a < 0 → ∀ b, b < 0 → a ≠ b → (TJxa1e45 a).2.1 ≠ (TJxa1e45 b).2.1 := by decide +kernel
theorem tyJxa1e45_ok : ∀ k, k < 0 → parseFieldDescriptor (TJxa1e45 k).2.2.1 = some (tyJxa1e45 k) := by decide +kernel
abbrev cJxa1e45_init_da8c8 : ByteArray := prog_21_method_1_code
def yJxa1e45_init_da8c8 : MethodName := ⟨RJxa1e45, "<init>", "()V"⟩
def RJxc12de : String := "java/util/AbstractList"
def TJxc12de : u_T := fun k => match k with
  | _ => ("", "", "", false)
def tyJxc12de : Nat → FieldType := fun k => match k with
  | _ => .int
abbrev wsJxc12de0 : List Cond := u_ws RJxc12de TJxc12de 0
theorem nmJxc12de : ∀ a, a < 0 → ∀ b, b < 0 → a ≠ b → (TJxc12de a).2.1 ≠ (TJxc12de b).2.1 := by decide +kernel
theorem tyJxc12de_ok : ∀ k, k < 0 → parseFieldDescriptor (TJxc12de k).2.2.1 = some (tyJxc12de k) := by decide +kernel
abbrev cJxc12de_init_da8c8 : ByteArray := prog_22_method_1_code
def yJxc12de_init_da8c8 : MethodName := ⟨RJxc12de, "<init>", "()V"⟩
def RJx4a65c : String := "java/util/ArrayList"
def TJx4a65c : u_T := fun k => match k with
  | 0 => ("java/util/AbstractList", "modCount", "I", false)
  | 1 => ("java/util/ArrayList", "elementData", "[Ljava/lang/Object;", false)
  | _ => ("java/util/ArrayList", "size", "I", false)
def tyJx4a65c : Nat → FieldType := fun k => match k with
  | 0 => .int
  | 1 => .array (.object "java/lang/Object")
  | _ => .int
abbrev wsJx4a65c0 : List Cond := u_ws RJx4a65c TJx4a65c 3
theorem nmJx4a65c : ∀ a, a < 3 → ∀ b, b < 3 → a ≠ b → (TJx4a65c a).2.1 ≠ (TJx4a65c b).2.1 := by decide +kernel
theorem tyJx4a65c_ok : ∀ k, k < 3 → parseFieldDescriptor (TJx4a65c k).2.2.1 = some (tyJx4a65c k) := by decide +kernel
abbrev cJx4a65c_init_da8c8 : ByteArray := prog_23_method_2_code
def yJx4a65c_init_da8c8 : MethodName := ⟨RJx4a65c, "<init>", "()V"⟩
abbrev cJx4a65c_grow_92f84 : ByteArray := prog_23_method_6_code
def yJx4a65c_grow_92f84 : MethodName := ⟨RJx4a65c, "grow", "(I)[Ljava/lang/Object;"⟩
abbrev cJx4a65c_grow_d5877 : ByteArray := prog_23_method_7_code
def yJx4a65c_grow_d5877 : MethodName := ⟨RJx4a65c, "grow", "()[Ljava/lang/Object;"⟩
abbrev cJx4a65c_size_8abf5 : ByteArray := prog_23_method_8_code
def yJx4a65c_size_8abf5 : MethodName := ⟨RJx4a65c, "size", "()I"⟩
abbrev cJx4a65c_elementData_915e3 : ByteArray := prog_23_method_18_code
def yJx4a65c_elementData_915e3 : MethodName := ⟨RJx4a65c, "elementData", "(I)Ljava/lang/Object;"⟩
abbrev cJx4a65c_get_915e3 : ByteArray := prog_23_method_20_code
def yJx4a65c_get_915e3 : MethodName := ⟨RJx4a65c, "get", "(I)Ljava/lang/Object;"⟩
abbrev cJx4a65c_add_72be8 : ByteArray := prog_23_method_24_code
def yJx4a65c_add_72be8 : MethodName := ⟨RJx4a65c, "add", "(Ljava/lang/Object;[Ljava/lang/Object;I)V"⟩
abbrev cJx4a65c_add_9ea2d : ByteArray := prog_23_method_25_code
def yJx4a65c_add_9ea2d : MethodName := ⟨RJx4a65c, "add", "(Ljava/lang/Object;)Z"⟩
abbrev cJx4a65c_remove_915e3 : ByteArray := prog_23_method_29_code
def yJx4a65c_remove_915e3 : MethodName := ⟨RJx4a65c, "remove", "(I)Ljava/lang/Object;"⟩
abbrev cJx4a65c_fastRemove_b59b0 : ByteArray := prog_23_method_39_code
def yJx4a65c_fastRemove_b59b0 : MethodName := ⟨RJx4a65c, "fastRemove", "([Ljava/lang/Object;I)V"⟩
def RJ7 : String := "java/util/Arrays"
def TJ7 : u_T := fun k => match k with
  | _ => ("", "", "", false)
def tyJ7 : Nat → FieldType := fun k => match k with
  | _ => .int
abbrev wsJ70 : List Cond := u_ws RJ7 TJ7 0
theorem nmJ7 : ∀ a, a < 0 → ∀ b, b < 0 → a ≠ b → (TJ7 a).2.1 ≠ (TJ7 b).2.1 := by decide +kernel
theorem tyJ7_ok : ∀ k, k < 0 → parseFieldDescriptor (TJ7 k).2.2.1 = some (tyJ7 k) := by decide +kernel
abbrev cJ7_copyOf_1904c : ByteArray := prog_24_method_119_code
def yJ7_copyOf_1904c : MethodName := ⟨RJ7, "copyOf", "([Ljava/lang/Object;I)[Ljava/lang/Object;"⟩
abbrev cJ7_copyOf_6403c : ByteArray := prog_24_method_120_code
def yJ7_copyOf_6403c : MethodName := ⟨RJ7, "copyOf", "([Ljava/lang/Object;ILjava/lang/Class;)[Ljava/lang/Object;"⟩
def RJx5ef63 : String := "java/util/Collection"
def TJx5ef63 : u_T := fun k => match k with
  | _ => ("", "", "", false)
def tyJx5ef63 : Nat → FieldType := fun k => match k with
  | _ => .int
abbrev wsJx5ef630 : List Cond := u_ws RJx5ef63 TJx5ef63 0
theorem nmJx5ef63 : ∀ a, a < 0 → ∀ b, b < 0 → a ≠ b → (TJx5ef63 a).2.1 ≠ (TJx5ef63 b).2.1 := by decide +kernel
theorem tyJx5ef63_ok : ∀ k, k < 0 → parseFieldDescriptor (TJx5ef63 k).2.2.1 = some (tyJx5ef63 k) := by decide +kernel
def RJxbd725 : String := "java/util/List"
def TJxbd725 : u_T := fun k => match k with
  | _ => ("", "", "", false)
def tyJxbd725 : Nat → FieldType := fun k => match k with
  | _ => .int
abbrev wsJxbd7250 : List Cond := u_ws RJxbd725 TJxbd725 0
theorem nmJxbd725 : ∀ a, a < 0 → ∀ b, b < 0 → a ≠ b → (TJxbd725 a).2.1 ≠ (TJxbd725 b).2.1 := by decide +kernel
theorem tyJxbd725_ok : ∀ k, k < 0 → parseFieldDescriptor (TJxbd725 k).2.2.1 = some (tyJxbd725 k) := by decide +kernel
def RJ15 : String := "java/util/Objects"
def TJ15 : u_T := fun k => match k with
  | _ => ("", "", "", false)
def tyJ15 : Nat → FieldType := fun k => match k with
  | _ => .int
abbrev wsJ150 : List Cond := u_ws RJ15 TJ15 0
theorem nmJ15 : ∀ a, a < 0 → ∀ b, b < 0 → a ≠ b → (TJ15 a).2.1 ≠ (TJ15 b).2.1 := by decide +kernel
theorem tyJ15_ok : ∀ k, k < 0 → parseFieldDescriptor (TJ15 k).2.2.1 = some (tyJ15 k) := by decide +kernel
abbrev cJ15_checkIndex_7cf53 : ByteArray := prog_27_method_17_code
def yJ15_checkIndex_7cf53 : MethodName := ⟨RJ15, "checkIndex", "(II)I"⟩
def RJxf0a74 : String := "java/util/RandomAccess"
def TJxf0a74 : u_T := fun k => match k with
  | _ => ("", "", "", false)
def tyJxf0a74 : Nat → FieldType := fun k => match k with
  | _ => .int
abbrev wsJxf0a740 : List Cond := u_ws RJxf0a74 TJxf0a74 0
theorem nmJxf0a74 : ∀ a, a < 0 → ∀ b, b < 0 → a ≠ b → (TJxf0a74 a).2.1 ≠ (TJxf0a74 b).2.1 := by decide +kernel
theorem tyJxf0a74_ok : ∀ k, k < 0 → parseFieldDescriptor (TJxf0a74 k).2.2.1 = some (tyJxf0a74 k) := by decide +kernel
def RJxa66e6 : String := "java/util/SequencedCollection"
def TJxa66e6 : u_T := fun k => match k with
  | _ => ("", "", "", false)
def tyJxa66e6 : Nat → FieldType := fun k => match k with
  | _ => .int
abbrev wsJxa66e60 : List Cond := u_ws RJxa66e6 TJxa66e6 0
theorem nmJxa66e6 : ∀ a, a < 0 → ∀ b, b < 0 → a ≠ b → (TJxa66e6 a).2.1 ≠ (TJxa66e6 b).2.1 := by decide +kernel
theorem tyJxa66e6_ok : ∀ k, k < 0 → parseFieldDescriptor (TJxa66e6 k).2.2.1 = some (tyJxa66e6 k) := by decide +kernel
def RJ8 : String := "jdk/internal/util/ArraysSupport"
def TJ8 : u_T := fun k => match k with
  | _ => ("", "", "", false)
def tyJ8 : Nat → FieldType := fun k => match k with
  | _ => .int
abbrev wsJ80 : List Cond := u_ws RJ8 TJ8 0
theorem nmJ8 : ∀ a, a < 0 → ∀ b, b < 0 → a ≠ b → (TJ8 a).2.1 ≠ (TJ8 b).2.1 := by decide +kernel
theorem tyJ8_ok : ∀ k, k < 0 → parseFieldDescriptor (TJ8 k).2.2.1 = some (tyJ8 k) := by decide +kernel
abbrev cJ8_newLength_cabcc : ByteArray := prog_30_method_27_code
def yJ8_newLength_cabcc : MethodName := ⟨RJ8, "newLength", "(III)I"⟩
abbrev cJ8_hugeLength_7cf53 : ByteArray := prog_30_method_28_code
def yJ8_hugeLength_7cf53 : MethodName := ⟨RJ8, "hugeLength", "(II)I"⟩
def RJ3 : String := "jdk/internal/util/Preconditions"
def TJ3 : u_T := fun k => match k with
  | _ => ("", "", "", false)
def tyJ3 : Nat → FieldType := fun k => match k with
  | _ => .int
abbrev wsJ30 : List Cond := u_ws RJ3 TJ3 0
theorem nmJ3 : ∀ a, a < 0 → ∀ b, b < 0 → a ≠ b → (TJ3 a).2.1 ≠ (TJ3 b).2.1 := by decide +kernel
theorem tyJ3_ok : ∀ k, k < 0 → parseFieldDescriptor (TJ3 k).2.2.1 = some (tyJ3 k) := by decide +kernel
abbrev cJ3_checkIndex_8e157 : ByteArray := prog_31_method_11_code
def yJ3_checkIndex_8e157 : MethodName := ⟨RJ3, "checkIndex", "(IILjava/util/function/BiFunction;)I"⟩
def RL : String := "LanternDeskLaw"
abbrev cL_cell : ByteArray := method_2_code
def yL_cell : MethodName := ⟨RL, "cell", "([II)I"⟩
abbrev cL_low : ByteArray := method_3_code
def yL_low : MethodName := ⟨RL, "low", "(II)I"⟩
abbrev cL_calls : ByteArray := method_4_code
def yL_calls : MethodName := ⟨RL, "calls", "(LLanternDesk;III)I"⟩
abbrev cL_way : ByteArray := method_5_code
def yL_way : MethodName := ⟨RL, "way", "(II)I"⟩
abbrev cL_step : ByteArray := method_6_code
def yL_step : MethodName := ⟨RL, "step", "(II)I"⟩
abbrev cL_days : ByteArray := method_7_code
def yL_days : MethodName := ⟨RL, "days", "(I[I)I"⟩
abbrev cL_sends : ByteArray := method_8_code
def yL_sends : MethodName := ⟨RL, "sends", "(I[I[I)V"⟩
abbrev cL_shows : ByteArray := method_9_code
def yL_shows : MethodName := ⟨RL, "shows", "(III[I[I[I)Z"⟩
abbrev cL_goes : ByteArray := method_10_code
def yL_goes : MethodName := ⟨RL, "goes", "(I[I[I[I[I[I[I)Z"⟩
abbrev cL_isSo : ByteArray := method_11_code
def yL_isSo : MethodName := ⟨RL, "isSo", "(LLanternDesk;I[I[I[I[I[I[I)Z"⟩
abbrev cL_streets : ByteArray := method_12_code
def yL_streets : MethodName := ⟨RL, "streets", "(LLanternDesk;II[I)Z"⟩
abbrev cL_minutes : ByteArray := method_13_code
def yL_minutes : MethodName := ⟨RL, "minutes", "(I[I[I[I[I[I[I)I"⟩
abbrev cL_night : ByteArray := method_14_code
def yL_night : MethodName := ⟨RL, "night", "([I[I[I)I"⟩
abbrev cL_law : ByteArray := code
def yL_law : MethodName := ⟨RL, "law", "([I)Z"⟩
abbrev vwCl : List vw_C := [(RJx4a65c, TJx4a65c, 3), (RX0, TX0, 2), (RX1, TX1, 4), (RX2, TX2, 4), (RX3, TX3, 4), (RX4, TX4, 7), (RX5, TX5, 6)]
end
section
def wsL_law0_r1 : List Cond := [Cond.classLink RL 11 RX5, Cond.instantiable RX5 6, Cond.initialized RX5, Cond.arrayClass .int, Cond.methodLink RL 106 yX5_init, Cond.instanceMethod yX5_init, Cond.code yX5_init cX5_init 2 none, Cond.methodLink RX5 1 objectInit, Cond.instanceMethod objectInit, Cond.code objectInit ⟨#[0xb1]⟩ 1 none, Cond.classLink RX5 9 RX3, Cond.fieldLink RX5 11 "LanternDesk" "streets" "[LLanternDesk$Street;", Cond.classLink RX5 15 RX1, Cond.fieldLink RX5 17 "LanternDesk" "escorts" "[LLanternDesk$Escort;", Cond.classLink RX5 21 RJx4a65c, Cond.instantiable RJx4a65c 3, Cond.initialized RJx4a65c, Cond.fieldLink RX5 24 "LanternDesk" "walks" "Ljava/util/ArrayList;", Cond.classLink RX5 28 RX0, Cond.instantiable RX0 2, Cond.initialized RX0, Cond.fieldLink RX5 31 "LanternDesk" "album" "LLanternDesk$Album;", Cond.fieldLink RX5 35 "LanternDesk" "day" "I", Cond.fieldLink RX5 39 "LanternDesk" "minute" "I"]
def wsL_law0_r2 : List Cond := [Cond.instantiable RX3 4, Cond.initialized RX3, Cond.instantiable RX1 4, Cond.initialized RX1, Cond.methodLink RX5 23 yJx4a65c_init_da8c8, Cond.instanceMethod yJx4a65c_init_da8c8, Cond.code yJx4a65c_init_da8c8 cJx4a65c_init_da8c8 1 none, Cond.fieldLink RJx4a65c 39 "java/util/ArrayList" "DEFAULTCAPACITY_EMPTY_ELEMENTDATA" "[Ljava/lang/Object;", Cond.fieldLink RJx4a65c 9 "java/util/ArrayList" "elementData" "[Ljava/lang/Object;", Cond.methodLink RJx4a65c 1 yJxc12de_init_da8c8, Cond.instanceMethod yJxc12de_init_da8c8, Cond.initialized RJxc12de, Cond.code yJxc12de_init_da8c8 cJxc12de_init_da8c8 1 none, Cond.fieldLink RJxc12de 7 "java/util/AbstractList" "modCount" "I", Cond.methodLink RJxc12de 1 yJxa1e45_init_da8c8, Cond.instanceMethod yJxa1e45_init_da8c8, Cond.initialized RJxa1e45, Cond.code yJxa1e45_init_da8c8 cJxa1e45_init_da8c8 1 none, Cond.methodLink RJxa1e45 1 objectInit, Cond.instanceMethod yX0_init, Cond.code yX0_init cX0_init 1 none, Cond.methodLink RX0 3 objectInit, Cond.classLink RX0 9 RJx4a65c, Cond.fieldLink RX0 12 "LanternDesk$Album" "papers" "Ljava/util/ArrayList;"]
def wsL_law0_r3 : List Cond := [Cond.fieldLink RX0 18 "LanternDesk$Album" "kept" "Ljava/util/ArrayList;", Cond.methodLink RX0 11 yJx4a65c_init_da8c8, Cond.methodLink RX5 42 yX3_init, Cond.instanceMethod yX3_init, Cond.code yX3_init cX3_init 2 none, Cond.methodLink RX3 3 objectInit, Cond.fieldLink RX3 9 "LanternDesk$Street" "purse" "I", Cond.fieldLink RX3 15 "LanternDesk$Street" "price" "I", Cond.fieldLink RX3 18 "LanternDesk$Street" "hasCamera" "Z", Cond.fieldLink RX3 22 "LanternDesk$Street" "votes" "[I", Cond.methodLink RX5 43 yX1_init, Cond.instanceMethod yX1_init, Cond.code yX1_init cX1_init 2 none, Cond.methodLink RX1 3 objectInit, Cond.fieldLink RX1 9 "LanternDesk$Escort" "street" "I", Cond.fieldLink RX1 15 "LanternDesk$Escort" "rank" "I", Cond.fieldLink RX1 18 "LanternDesk$Escort" "isFree" "Z", Cond.fieldLink RX1 22 "LanternDesk$Escort" "number" "I", Cond.methodLink RL 107 yL_cell, Cond.static yL_cell, Cond.initialized RL, Cond.code yL_cell cL_cell 2 (some .int), Cond.constant RL 7 (51637), Cond.constant RL 8 (2051463)]
def wsL_law0_r4 : List Cond := [Cond.methodLink RL 58 yL_low, Cond.static yL_low, Cond.code yL_low cL_low 2 (some .int), Cond.constant RL 9 (2147483647), Cond.methodLink RL 111 yX5_ask, Cond.instanceMethod yX5_ask, Cond.selects RX5 yX5_ask yX5_ask, Cond.code yX5_ask cX5_ask 4 (some .int), Cond.classLink RX5 50 "java/lang/IndexOutOfBoundsException", Cond.initialized "java/lang/IndexOutOfBoundsException", Cond.classLink RX5 57 "java/lang/IllegalArgumentException", Cond.initialized "java/lang/IllegalArgumentException", Cond.classLink RX5 66 "java/lang/IllegalStateException", Cond.initialized "java/lang/IllegalStateException", Cond.classLink RX5 117 RX4, Cond.instantiable RX4 7, Cond.initialized RX4, Cond.methodLink RX5 98 yX5_isStreet, Cond.static yX5_isStreet, Cond.code yX5_isStreet cX5_isStreet 1 (some .boolean), Cond.methodLink RX5 112 yJx4a65c_size_8abf5, Cond.instanceMethod yJx4a65c_size_8abf5, Cond.selects RJx4a65c yJx4a65c_size_8abf5 yJx4a65c_size_8abf5, Cond.code yJx4a65c_size_8abf5 cJx4a65c_size_8abf5 1 (some .int)]
def wsL_law0_r5 : List Cond := [Cond.fieldLink RJx4a65c 48 "java/util/ArrayList" "size" "I", Cond.methodLink RX5 119 yX4_init, Cond.instanceMethod yX4_init, Cond.code yX4_init cX4_init 4 none, Cond.methodLink RX4 3 objectInit, Cond.fieldLink RX4 9 "LanternDesk$Walk" "state" "I", Cond.fieldLink RX4 15 "LanternDesk$Walk" "escort" "LLanternDesk$Escort;", Cond.fieldLink RX4 19 "LanternDesk$Walk" "minutesInDark" "I", Cond.fieldLink RX4 22 "LanternDesk$Walk" "isJudged" "Z", Cond.fieldLink RX4 26 "LanternDesk$Walk" "number" "I", Cond.fieldLink RX4 29 "LanternDesk$Walk" "from" "I", Cond.fieldLink RX4 32 "LanternDesk$Walk" "to" "I", Cond.methodLink RX5 122 yJx4a65c_add_9ea2d, Cond.instanceMethod yJx4a65c_add_9ea2d, Cond.selects RJx4a65c yJx4a65c_add_9ea2d yJx4a65c_add_9ea2d, Cond.code yJx4a65c_add_9ea2d cJx4a65c_add_9ea2d 2 (some .boolean), Cond.fieldLink RJx4a65c 63 "java/util/ArrayList" "modCount" "I", Cond.sameField "java/util/ArrayList" "java/util/AbstractList" "modCount" "I", Cond.methodLink RJx4a65c 131 yJx4a65c_add_72be8, Cond.instanceMethod yJx4a65c_add_72be8, Cond.selects RJx4a65c yJx4a65c_add_72be8 yJx4a65c_add_72be8, Cond.code yJx4a65c_add_72be8 cJx4a65c_add_72be8 4 none, Cond.methodLink RJx4a65c 129 yJx4a65c_grow_d5877, Cond.instanceMethod yJx4a65c_grow_d5877]
def wsL_law0_r6 : List Cond := [Cond.selects RJx4a65c yJx4a65c_grow_d5877 yJx4a65c_grow_d5877, Cond.code yJx4a65c_grow_d5877 cJx4a65c_grow_d5877 1 (some (.array (.object "java/lang/Object"))), Cond.methodLink RJx4a65c 69 yJx4a65c_grow_92f84, Cond.instanceMethod yJx4a65c_grow_92f84, Cond.selects RJx4a65c yJx4a65c_grow_92f84 yJx4a65c_grow_92f84, Cond.code yJx4a65c_grow_92f84 cJx4a65c_grow_92f84 4 (some (.array (.object "java/lang/Object"))), Cond.methodLink RJx4a65c 79 Lib.Math.max.name, Cond.static Lib.Math.max.name, Cond.initialized "java/lang/Math", Cond.code Lib.Math.max.name Lib.Math.max.code 2 (some .int), Cond.classLink RJx4a65c 7 "java/lang/Object", Cond.methodLink RJx4a65c 73 yJ8_newLength_cabcc, Cond.static yJ8_newLength_cabcc, Cond.initialized RJ8, Cond.code yJ8_newLength_cabcc cJ8_newLength_cabcc 4 (some .int), Cond.methodLink RJ8 194 Lib.Math.max.name, Cond.constant RJ8 200 (2147483639), Cond.methodLink RJ8 201 yJ8_hugeLength_7cf53, Cond.static yJ8_hugeLength_7cf53, Cond.code yJ8_hugeLength_7cf53 cJ8_hugeLength_7cf53 3 (some .int), Cond.methodLink RJx4a65c 66 yJ7_copyOf_1904c, Cond.static yJ7_copyOf_1904c, Cond.initialized RJ7, Cond.code yJ7_copyOf_1904c cJ7_copyOf_1904c 2 (some (.array (.object "java/lang/Object")))]
def wsL_law0_r7 : List Cond := [Cond.methodLink RJ7 86 ⟨"java/lang/Object", "getClass", "()Ljava/lang/Class;"⟩, Cond.selects "[Ljava/lang/Object;" ⟨"java/lang/Object", "getClass", "()Ljava/lang/Class;"⟩ ⟨"java/lang/Object", "getClass", "()Ljava/lang/Class;"⟩, Cond.instanceMethod ⟨"java/lang/Object", "getClass", "()Ljava/lang/Class;"⟩, Cond.native ⟨"java/lang/Object", "getClass", "()Ljava/lang/Class;"⟩, Cond.methodLink RJ7 300 yJ7_copyOf_6403c, Cond.static yJ7_copyOf_6403c, Cond.code yJ7_copyOf_6403c cJ7_copyOf_6403c 4 (some (.array (.object "java/lang/Object"))), Cond.classLink RJ7 110 "[Ljava/lang/Object;", Cond.classLink RJ7 2 "java/lang/Object", Cond.methodLink RJ7 304 Lib.Math.min.name, Cond.static Lib.Math.min.name, Cond.code Lib.Math.min.name Lib.Math.min.code 2 (some .int), Cond.methodLink RJ7 150 arraycopyName, Cond.native arraycopyName, Cond.static arraycopyName, Cond.initialized "java/lang/System", Cond.methodLink RL 114 yL_streets, Cond.static yL_streets, Cond.code yL_streets cL_streets 7 (some .boolean), Cond.constant RL 86 (100000), Cond.methodLink RL 87 yX5_pay, Cond.instanceMethod yX5_pay, Cond.selects RX5 yX5_pay yX5_pay, Cond.code yX5_pay cX5_pay 4 (some .int)]
def wsL_law0_r8 : List Cond := [Cond.constant RX5 65 (100000), Cond.methodLink RX5 46 yX5_findStreet, Cond.instanceMethod yX5_findStreet, Cond.selects RX5 yX5_findStreet yX5_findStreet, Cond.code yX5_findStreet cX5_findStreet 2 (some (.object "LanternDesk$Street")), Cond.methodLink RL 90 yX5_setStreet, Cond.instanceMethod yX5_setStreet, Cond.selects RX5 yX5_setStreet yX5_setStreet, Cond.code yX5_setStreet cX5_setStreet 6 (some .int), Cond.methodLink RL 94 yX5_vote, Cond.instanceMethod yX5_vote, Cond.selects RX5 yX5_vote yX5_vote, Cond.code yX5_vote cX5_vote 5 (some .int), Cond.methodLink RX5 84 yX3_setVote, Cond.instanceMethod yX3_setVote, Cond.selects RX3 yX3_setVote yX3_setVote, Cond.code yX3_setVote cX3_setVote 3 none, Cond.methodLink RX5 88 yX3_daysKept, Cond.instanceMethod yX3_daysKept, Cond.selects RX3 yX3_daysKept yX3_daysKept, Cond.code yX3_daysKept cX3_daysKept 8 (some .int), Cond.methodLink RX3 26 Lib.Math.min.name, Cond.methodLink RX3 32 Lib.Math.max.name, Cond.methodLink RL 38 yL_days]
def wsL_law0_r9 : List Cond := [Cond.static yL_days, Cond.code yL_days cL_days 7 (some .int), Cond.methodLink RL 118 yL_calls, Cond.static yL_calls, Cond.codeWith yL_calls cL_calls 5 (some .int) [(0, 40, 41, 24)], Cond.classLink RL 24 "java/lang/IllegalStateException", Cond.methodLink RL 10 yX5_place, Cond.instanceMethod yX5_place, Cond.selects RX5 yX5_place yX5_place, Cond.code yX5_place cX5_place 5 (some .int), Cond.methodLink RX5 92 yX5_findEscort, Cond.instanceMethod yX5_findEscort, Cond.selects RX5 yX5_findEscort yX5_findEscort, Cond.code yX5_findEscort cX5_findEscort 2 (some (.object "LanternDesk$Escort")), Cond.methodLink RL 16 yX5_night, Cond.instanceMethod yX5_night, Cond.selects RX5 yX5_night yX5_night, Cond.code yX5_night cX5_night 1 (some .int), Cond.methodLink RX5 136 yX5_areAllOver, Cond.instanceMethod yX5_areAllOver, Cond.selects RX5 yX5_areAllOver yX5_areAllOver, Cond.code yX5_areAllOver cX5_areAllOver 2 (some .boolean), Cond.classLink RX5 117 "LanternDesk$Walk", Cond.methodLink RX5 203 yJx4a65c_get_915e3]
def wsL_law0_r10 : List Cond := [Cond.instanceMethod yJx4a65c_get_915e3, Cond.selects RJx4a65c yJx4a65c_get_915e3 yJx4a65c_get_915e3, Cond.code yJx4a65c_get_915e3 cJx4a65c_get_915e3 2 (some (.object "java/lang/Object")), Cond.methodLink RJx4a65c 118 yJ15_checkIndex_7cf53, Cond.static yJ15_checkIndex_7cf53, Cond.initialized RJ15, Cond.code yJ15_checkIndex_7cf53 cJ15_checkIndex_7cf53 2 (some .int), Cond.methodLink RJ15 105 yJ3_checkIndex_8e157, Cond.static yJ3_checkIndex_8e157, Cond.initialized RJ3, Cond.code yJ3_checkIndex_8e157 cJ3_checkIndex_8e157 3 (some .int), Cond.methodLink RJx4a65c 123 yJx4a65c_elementData_915e3, Cond.instanceMethod yJx4a65c_elementData_915e3, Cond.selects RJx4a65c yJx4a65c_elementData_915e3 yJx4a65c_elementData_915e3, Cond.code yJx4a65c_elementData_915e3 cJx4a65c_elementData_915e3 2 (some (.object "java/lang/Object")), Cond.methodLink RX5 144 yX0_eraseDue, Cond.instanceMethod yX0_eraseDue, Cond.selects RX0 yX0_eraseDue yX0_eraseDue, Cond.code yX0_eraseDue cX0_eraseDue 4 (some .int), Cond.classLink RX0 29 "LanternDesk$Picture", Cond.methodLink RX0 21 yJx4a65c_size_8abf5, Cond.methodLink RX0 38 yJx4a65c_get_915e3, Cond.methodLink RX0 49 yJx4a65c_remove_915e3, Cond.instanceMethod yJx4a65c_remove_915e3]
def wsL_law0_r11 : List Cond := [Cond.selects RJx4a65c yJx4a65c_remove_915e3 yJx4a65c_remove_915e3, Cond.code yJx4a65c_remove_915e3 cJx4a65c_remove_915e3 4 (some (.object "java/lang/Object")), Cond.methodLink RJx4a65c 144 yJx4a65c_fastRemove_b59b0, Cond.instanceMethod yJx4a65c_fastRemove_b59b0, Cond.selects RJx4a65c yJx4a65c_fastRemove_b59b0 yJx4a65c_fastRemove_b59b0, Cond.code yJx4a65c_fastRemove_b59b0 cJx4a65c_fastRemove_b59b0 4 none, Cond.methodLink RJx4a65c 112 arraycopyName, Cond.methodLink RL 20 yX5_complain, Cond.instanceMethod yX5_complain, Cond.selects RX5 yX5_complain yX5_complain, Cond.code yX5_complain cX5_complain 5 (some .int), Cond.methodLink RX5 171 Lib.Math.min.name, Cond.methodLink RX5 177 Lib.Math.max.name, Cond.methodLink RX5 148 yX5_findWalk, Cond.instanceMethod yX5_findWalk, Cond.selects RX5 yX5_findWalk yX5_findWalk, Cond.code yX5_findWalk cX5_findWalk 2 (some (.object "LanternDesk$Walk")), Cond.methodLink RL 122 yL_night, Cond.static yL_night, Cond.code yL_night cL_night 5 (some .int), Cond.methodLink RL 125 yX5_pass, Cond.instanceMethod yX5_pass, Cond.selects RX5 yX5_pass yX5_pass, Cond.code yX5_pass cX5_pass 4 (some .int)]
def wsL_law0_r12 : List Cond := [Cond.methodLink RX5 130 yX5_giveEscorts, Cond.instanceMethod yX5_giveEscorts, Cond.selects RX5 yX5_giveEscorts yX5_giveEscorts, Cond.code yX5_giveEscorts cX5_giveEscorts 4 none, Cond.methodLink RX5 216 yX5_bestFreeEscort, Cond.instanceMethod yX5_bestFreeEscort, Cond.selects RX5 yX5_bestFreeEscort yX5_bestFreeEscort, Cond.code yX5_bestFreeEscort cX5_bestFreeEscort 5 (some (.object "LanternDesk$Escort")), Cond.methodLink RX5 219 yX5_isBetter, Cond.static yX5_isBetter, Cond.code yX5_isBetter cX5_isBetter 5 (some .boolean), Cond.methodLink RX5 186 yX5_distance, Cond.static yX5_distance, Cond.code yX5_distance cX5_distance 3 (some .int), Cond.methodLink RX5 210 yX5_stepsUp, Cond.static yX5_stepsUp, Cond.code yX5_stepsUp cX5_stepsUp 2 (some .int), Cond.methodLink RX5 207 yJ9_floorMod_7cf53, Cond.static yJ9_floorMod_7cf53, Cond.initialized RJ9, Cond.code yJ9_floorMod_7cf53 cJ9_floorMod_7cf53 3 (some .int), Cond.methodLink RX5 133 yX5_goOn, Cond.instanceMethod yX5_goOn, Cond.selects RX5 yX5_goOn yX5_goOn]
def wsL_law0_r13 : List Cond := [Cond.code yX5_goOn cX5_goOn 5 (some .int), Cond.methodLink RX5 223 yX5_move, Cond.static yX5_move, Cond.code yX5_move cX5_move 2 none, Cond.methodLink RX5 238 yX5_oneStepOn, Cond.static yX5_oneStepOn, Cond.code yX5_oneStepOn cX5_oneStepOn 3 (some .int), Cond.methodLink RX5 227 yX5_see, Cond.instanceMethod yX5_see, Cond.selects RX5 yX5_see yX5_see, Cond.code yX5_see cX5_see 4 none, Cond.methodLink RX5 242 yX0_take, Cond.instanceMethod yX0_take, Cond.selects RX0 yX0_take yX0_take, Cond.code yX0_take cX0_take 6 none, Cond.classLink RX0 29 RX2, Cond.instantiable RX2 4, Cond.initialized RX2, Cond.methodLink RX0 25 yX0_keeps, Cond.instanceMethod yX0_keeps, Cond.selects RX0 yX0_keeps yX0_keeps, Cond.code yX0_keeps cX0_keeps 5 (some .boolean), Cond.methodLink RX0 42 yX2_isOf, Cond.instanceMethod yX2_isOf]
def wsL_law0_r14 : List Cond := [Cond.selects RX2 yX2_isOf yX2_isOf, Cond.code yX2_isOf cX2_isOf 4 (some .boolean), Cond.fieldLink RX2 7 "LanternDesk$Picture" "street" "I", Cond.fieldLink RX2 13 "LanternDesk$Picture" "walk" "I", Cond.fieldLink RX2 16 "LanternDesk$Picture" "takenOn" "I", Cond.methodLink RX0 31 yX2_init, Cond.instanceMethod yX2_init, Cond.code yX2_init cX2_init 5 none, Cond.methodLink RX2 1 objectInit, Cond.fieldLink RX2 19 "LanternDesk$Picture" "erasedOn" "I", Cond.methodLink RX0 34 yJx4a65c_add_9ea2d, Cond.methodLink RX5 231 yX5_endIfThere, Cond.static yX5_endIfThere, Cond.code yX5_endIfThere cX5_endIfThere 2 (some .int), Cond.methodLink RL 128 yL_minutes, Cond.static yL_minutes, Cond.code yL_minutes cL_minutes 11 (some .int), Cond.methodLink RL 98 yL_sends, Cond.static yL_sends, Cond.code yL_sends cL_sends 8 none, Cond.methodLink RL 26 yL_way, Cond.static yL_way, Cond.code yL_way cL_way 3 (some .int), Cond.methodLink RL 102 yL_goes]
def wsL_law0_r15 : List Cond := [Cond.static yL_goes, Cond.code yL_goes cL_goes 11 (some .boolean), Cond.methodLink RL 31 yL_step, Cond.static yL_step, Cond.code yL_step cL_step 3 (some .int), Cond.methodLink RL 34 yL_shows, Cond.static yL_shows, Cond.code yL_shows cL_shows 8 (some .boolean), Cond.methodLink RL 132 yL_isSo, Cond.static yL_isSo, Cond.code yL_isSo cL_isSo 13 (some .boolean), Cond.methodLink RL 42 yX5_day, Cond.instanceMethod yX5_day, Cond.selects RX5 yX5_day yX5_day, Cond.code yX5_day cX5_day 1 (some .int), Cond.methodLink RL 45 yX5_minute, Cond.instanceMethod yX5_minute, Cond.selects RX5 yX5_minute yX5_minute, Cond.code yX5_minute cX5_minute 1 (some .int), Cond.methodLink RL 48 yX5_walks, Cond.instanceMethod yX5_walks, Cond.selects RX5 yX5_walks yX5_walks, Cond.code yX5_walks cX5_walks 1 (some .int), Cond.methodLink RL 51 yX5_taken]
def wsL_law0_r16 : List Cond := [Cond.instanceMethod yX5_taken, Cond.selects RX5 yX5_taken yX5_taken, Cond.code yX5_taken cX5_taken 1 (some .int), Cond.methodLink RX5 200 yX0_countTaken, Cond.instanceMethod yX0_countTaken, Cond.selects RX0 yX0_countTaken yX0_countTaken, Cond.code yX0_countTaken cX0_countTaken 1 (some .int), Cond.methodLink RL 54 yX5_purse, Cond.instanceMethod yX5_purse, Cond.selects RX5 yX5_purse yX5_purse, Cond.code yX5_purse cX5_purse 3 (some .int), Cond.methodLink RL 61 yX5_way, Cond.instanceMethod yX5_way, Cond.selects RX5 yX5_way yX5_way, Cond.code yX5_way cX5_way 3 (some .int), Cond.methodLink RL 62 yX5_streetOf, Cond.instanceMethod yX5_streetOf, Cond.selects RX5 yX5_streetOf yX5_streetOf, Cond.code yX5_streetOf cX5_streetOf 3 (some .int), Cond.methodLink RL 65 yX5_rank, Cond.instanceMethod yX5_rank, Cond.selects RX5 yX5_rank yX5_rank, Cond.code yX5_rank cX5_rank 3 (some .int), Cond.methodLink RL 68 yX5_state]
def wsL_law0_r17 : List Cond := [Cond.instanceMethod yX5_state, Cond.selects RX5 yX5_state yX5_state, Cond.code yX5_state cX5_state 3 (some .int), Cond.methodLink RL 71 yX5_escortOf, Cond.instanceMethod yX5_escortOf, Cond.selects RX5 yX5_escortOf yX5_escortOf, Cond.code yX5_escortOf cX5_escortOf 4 (some .int), Cond.methodLink RL 74 yX5_dark, Cond.instanceMethod yX5_dark, Cond.selects RX5 yX5_dark yX5_dark, Cond.code yX5_dark cX5_dark 3 (some .int), Cond.methodLink RL 77 yX5_pictures, Cond.instanceMethod yX5_pictures, Cond.selects RX5 yX5_pictures yX5_pictures, Cond.code yX5_pictures cX5_pictures 1 (some .int), Cond.methodLink RX5 189 yX0_countKept, Cond.instanceMethod yX0_countKept, Cond.selects RX0 yX0_countKept yX0_countKept, Cond.code yX0_countKept cX0_countKept 1 (some .int), Cond.methodLink RL 80 yX5_shows, Cond.instanceMethod yX5_shows, Cond.selects RX5 yX5_shows yX5_shows, Cond.code yX5_shows cX5_shows 4 (some .boolean), Cond.methodLink RX5 192 yX0_keeps]
def wsL_law0_r18 : List Cond := [Cond.methodLink RL 83 yX5_showsByPapers, Cond.instanceMethod yX5_showsByPapers, Cond.selects RX5 yX5_showsByPapers yX5_showsByPapers, Cond.code yX5_showsByPapers cX5_showsByPapers 4 (some .boolean), Cond.methodLink RX5 196 yX0_papersTell, Cond.instanceMethod yX0_papersTell, Cond.selects RX0 yX0_papersTell yX0_papersTell, Cond.code yX0_papersTell cX0_papersTell 7 (some .boolean)]
def wsL_law0 : List Cond := (wsL_law0_r1 ++ (wsL_law0_r2 ++ (wsL_law0_r3 ++ (wsL_law0_r4 ++ (wsL_law0_r5 ++ (wsL_law0_r6 ++ (wsL_law0_r7 ++ (wsL_law0_r8 ++ (wsL_law0_r9 ++ (wsL_law0_r10 ++ (wsL_law0_r11 ++ (wsL_law0_r12 ++ (wsL_law0_r13 ++ (wsL_law0_r14 ++ (wsL_law0_r15 ++ (wsL_law0_r16 ++ (wsL_law0_r17 ++ wsL_law0_r18))))))))))))))))) ++ wsX50 ++ wsJx4a65c0 ++ wsX00 ++ wsX30 ++ wsX10 ++ wsX40 ++ wsX20 ++ ([] : List Cond)
def wsL_law : List Cond := wsL_law0 ++ (vx_atS RX5 54 "java/lang/IndexOutOfBoundsException" ["java/lang/RuntimeException", "java/lang/Exception"]).filter goodWord ++ (vx_atS RX5 61 "java/lang/IllegalArgumentException" ["java/lang/RuntimeException", "java/lang/Exception"]).filter goodWord ++ (vx_atS RX5 70 "java/lang/IllegalStateException" ["java/lang/RuntimeException", "java/lang/Exception"]).filter goodWord
theorem tb_1 : ∀ w ∈ tables_1_1, w ∈ lw_tbl := fun _ h => List.mem_append_right _ (show _ ∈ tables_1 from List.mem_append_left _ h)
theorem tb_2 : ∀ w ∈ tables_1_2, w ∈ lw_tbl := fun _ h => List.mem_append_right _ (show _ ∈ tables_1 from List.mem_append_right _ (List.mem_append_left _ h))
theorem tb_3 : ∀ w ∈ tables_1_3, w ∈ lw_tbl := fun _ h => List.mem_append_right _ (show _ ∈ tables_1 from List.mem_append_right _ (List.mem_append_right _ (h)))
set_option maxRecDepth 20000 in
theorem wr_0 : ∀ w ∈ wsL_law0_r1, w ∈ lw_tbl := List.forall_mem_cons.mpr ⟨tb_1 _ (List.mem_of_getElem? (i := 22) (by decide +kernel)), List.forall_mem_cons.mpr ⟨tb_1 _ (List.mem_of_getElem? (i := 23) (by decide +kernel)), List.forall_mem_cons.mpr ⟨tb_1 _ (List.mem_of_getElem? (i := 1) (by decide +kernel)), List.forall_mem_cons.mpr ⟨tb_1 _ (List.mem_of_getElem? (i := 96) (by decide +kernel)), List.forall_mem_cons.mpr ⟨tb_1 _ (List.mem_of_getElem? (i := 24) (by decide +kernel)), List.forall_mem_cons.mpr ⟨tb_1 _ (List.mem_of_getElem? (i := 25) (by decide +kernel)), List.forall_mem_cons.mpr ⟨tb_1 _ (List.mem_of_getElem? (i := 26) (by decide +kernel)), List.forall_mem_cons.mpr ⟨tb_1 _ (List.mem_of_getElem? (i := 27) (by decide +kernel)), List.forall_mem_cons.mpr ⟨tb_1 _ (List.mem_of_getElem? (i := 28) (by decide +kernel)), List.forall_mem_cons.mpr ⟨tb_1 _ (List.mem_of_getElem? (i := 29) (by decide +kernel)), List.forall_mem_cons.mpr ⟨tb_1 _ (List.mem_of_getElem? (i := 30) (by decide +kernel)), List.forall_mem_cons.mpr ⟨tb_1 _ (List.mem_of_getElem? (i := 119) (by decide +kernel)), List.forall_mem_cons.mpr ⟨tb_1 _ (List.mem_of_getElem? (i := 32) (by decide +kernel)), List.forall_mem_cons.mpr ⟨tb_1 _ (List.mem_of_getElem? (i := 120) (by decide +kernel)), List.forall_mem_cons.mpr ⟨tb_1 _ (List.mem_of_getElem? (i := 34) (by decide +kernel)), List.forall_mem_cons.mpr ⟨tb_1 _ (List.mem_of_getElem? (i := 35) (by decide +kernel)), List.forall_mem_cons.mpr ⟨tb_1 _ (List.mem_of_getElem? (i := 4) (by decide +kernel)), List.forall_mem_cons.mpr ⟨tb_1 _ (List.mem_of_getElem? (i := 121) (by decide +kernel)), List.forall_mem_cons.mpr ⟨tb_1 _ (List.mem_of_getElem? (i := 60) (by decide +kernel)), List.forall_mem_cons.mpr ⟨tb_1 _ (List.mem_of_getElem? (i := 61) (by decide +kernel)), List.forall_mem_cons.mpr ⟨tb_1 _ (List.mem_of_getElem? (i := 5) (by decide +kernel)), List.forall_mem_cons.mpr ⟨tb_1 _ (List.mem_of_getElem? (i := 122) (by decide +kernel)), List.forall_mem_cons.mpr ⟨tb_1 _ (List.mem_of_getElem? (i := 123) (by decide +kernel)), List.forall_mem_cons.mpr ⟨tb_1 _ (List.mem_of_getElem? (i := 124) (by decide +kernel)), fun _ h => absurd h List.not_mem_nil⟩⟩⟩⟩⟩⟩⟩⟩⟩⟩⟩⟩⟩⟩⟩⟩⟩⟩⟩⟩⟩⟩⟩⟩
set_option maxRecDepth 20000 in
theorem wr_1 : ∀ w ∈ wsL_law0_r2, w ∈ lw_tbl := List.forall_mem_cons.mpr ⟨tb_1 _ (List.mem_of_getElem? (i := 75) (by decide +kernel)), List.forall_mem_cons.mpr ⟨tb_1 _ (List.mem_of_getElem? (i := 6) (by decide +kernel)), List.forall_mem_cons.mpr ⟨tb_1 _ (List.mem_of_getElem? (i := 97) (by decide +kernel)), List.forall_mem_cons.mpr ⟨tb_1 _ (List.mem_of_getElem? (i := 7) (by decide +kernel)), List.forall_mem_cons.mpr ⟨tb_1 _ (List.mem_of_getElem? (i := 36) (by decide +kernel)), List.forall_mem_cons.mpr ⟨tb_1 _ (List.mem_of_getElem? (i := 37) (by decide +kernel)), List.forall_mem_cons.mpr ⟨tb_1 _ (List.mem_of_getElem? (i := 38) (by decide +kernel)), List.forall_mem_cons.mpr ⟨tb_1 _ (List.mem_of_getElem? (i := 46) (by decide +kernel)), List.forall_mem_cons.mpr ⟨tb_1 _ (List.mem_of_getElem? (i := 48) (by decide +kernel)), List.forall_mem_cons.mpr ⟨tb_1 _ (List.mem_of_getElem? (i := 39) (by decide +kernel)), List.forall_mem_cons.mpr ⟨tb_1 _ (List.mem_of_getElem? (i := 40) (by decide +kernel)), List.forall_mem_cons.mpr ⟨tb_1 _ (List.mem_of_getElem? (i := 3) (by decide +kernel)), List.forall_mem_cons.mpr ⟨tb_1 _ (List.mem_of_getElem? (i := 41) (by decide +kernel)), List.forall_mem_cons.mpr ⟨tb_1 _ (List.mem_of_getElem? (i := 50) (by decide +kernel)), List.forall_mem_cons.mpr ⟨tb_1 _ (List.mem_of_getElem? (i := 42) (by decide +kernel)), List.forall_mem_cons.mpr ⟨tb_1 _ (List.mem_of_getElem? (i := 43) (by decide +kernel)), List.forall_mem_cons.mpr ⟨tb_1 _ (List.mem_of_getElem? (i := 2) (by decide +kernel)), List.forall_mem_cons.mpr ⟨tb_1 _ (List.mem_of_getElem? (i := 44) (by decide +kernel)), List.forall_mem_cons.mpr ⟨tb_1 _ (List.mem_of_getElem? (i := 45) (by decide +kernel)), List.forall_mem_cons.mpr ⟨tb_1 _ (List.mem_of_getElem? (i := 63) (by decide +kernel)), List.forall_mem_cons.mpr ⟨tb_1 _ (List.mem_of_getElem? (i := 64) (by decide +kernel)), List.forall_mem_cons.mpr ⟨tb_1 _ (List.mem_of_getElem? (i := 65) (by decide +kernel)), List.forall_mem_cons.mpr ⟨tb_1 _ (List.mem_of_getElem? (i := 66) (by decide +kernel)), List.forall_mem_cons.mpr ⟨tb_1 _ (List.mem_of_getElem? (i := 68) (by decide +kernel)), fun _ h => absurd h List.not_mem_nil⟩⟩⟩⟩⟩⟩⟩⟩⟩⟩⟩⟩⟩⟩⟩⟩⟩⟩⟩⟩⟩⟩⟩⟩
set_option maxRecDepth 20000 in
theorem wr_2 : ∀ w ∈ wsL_law0_r3, w ∈ lw_tbl := List.forall_mem_cons.mpr ⟨tb_1 _ (List.mem_of_getElem? (i := 69) (by decide +kernel)), List.forall_mem_cons.mpr ⟨tb_1 _ (List.mem_of_getElem? (i := 67) (by decide +kernel)), List.forall_mem_cons.mpr ⟨tb_1 _ (List.mem_of_getElem? (i := 76) (by decide +kernel)), List.forall_mem_cons.mpr ⟨tb_1 _ (List.mem_of_getElem? (i := 77) (by decide +kernel)), List.forall_mem_cons.mpr ⟨tb_1 _ (List.mem_of_getElem? (i := 78) (by decide +kernel)), List.forall_mem_cons.mpr ⟨tb_1 _ (List.mem_of_getElem? (i := 79) (by decide +kernel)), List.forall_mem_cons.mpr ⟨tb_1 _ (List.mem_of_getElem? (i := 80) (by decide +kernel)), List.forall_mem_cons.mpr ⟨tb_1 _ (List.mem_of_getElem? (i := 82) (by decide +kernel)), List.forall_mem_cons.mpr ⟨tb_1 _ (List.mem_of_getElem? (i := 84) (by decide +kernel)), List.forall_mem_cons.mpr ⟨tb_1 _ (List.mem_of_getElem? (i := 86) (by decide +kernel)), List.forall_mem_cons.mpr ⟨tb_1 _ (List.mem_of_getElem? (i := 98) (by decide +kernel)), List.forall_mem_cons.mpr ⟨tb_1 _ (List.mem_of_getElem? (i := 99) (by decide +kernel)), List.forall_mem_cons.mpr ⟨tb_1 _ (List.mem_of_getElem? (i := 100) (by decide +kernel)), List.forall_mem_cons.mpr ⟨tb_1 _ (List.mem_of_getElem? (i := 101) (by decide +kernel)), List.forall_mem_cons.mpr ⟨tb_1 _ (List.mem_of_getElem? (i := 104) (by decide +kernel)), List.forall_mem_cons.mpr ⟨tb_1 _ (List.mem_of_getElem? (i := 106) (by decide +kernel)), List.forall_mem_cons.mpr ⟨tb_1 _ (List.mem_of_getElem? (i := 108) (by decide +kernel)), List.forall_mem_cons.mpr ⟨tb_1 _ (List.mem_of_getElem? (i := 102) (by decide +kernel)), List.forall_mem_cons.mpr ⟨tb_2 _ (List.mem_of_getElem? (i := 204) (by decide +kernel)), List.forall_mem_cons.mpr ⟨tb_2 _ (List.mem_of_getElem? (i := 205) (by decide +kernel)), List.forall_mem_cons.mpr ⟨tb_1 _ (List.mem_of_getElem? (i := 0) (by decide +kernel)), List.forall_mem_cons.mpr ⟨tb_2 _ (List.mem_of_getElem? (i := 206) (by decide +kernel)), List.forall_mem_cons.mpr ⟨tb_2 _ (List.mem_of_getElem? (i := 207) (by decide +kernel)), List.forall_mem_cons.mpr ⟨tb_2 _ (List.mem_of_getElem? (i := 208) (by decide +kernel)), fun _ h => absurd h List.not_mem_nil⟩⟩⟩⟩⟩⟩⟩⟩⟩⟩⟩⟩⟩⟩⟩⟩⟩⟩⟩⟩⟩⟩⟩⟩
set_option maxRecDepth 20000 in
theorem wr_3 : ∀ w ∈ wsL_law0_r4, w ∈ lw_tbl := List.forall_mem_cons.mpr ⟨tb_2 _ (List.mem_of_getElem? (i := 209) (by decide +kernel)), List.forall_mem_cons.mpr ⟨tb_2 _ (List.mem_of_getElem? (i := 210) (by decide +kernel)), List.forall_mem_cons.mpr ⟨tb_2 _ (List.mem_of_getElem? (i := 211) (by decide +kernel)), List.forall_mem_cons.mpr ⟨tb_2 _ (List.mem_of_getElem? (i := 212) (by decide +kernel)), List.forall_mem_cons.mpr ⟨tb_1 _ (List.mem_of_getElem? (i := 138) (by decide +kernel)), List.forall_mem_cons.mpr ⟨tb_1 _ (List.mem_of_getElem? (i := 139) (by decide +kernel)), List.forall_mem_cons.mpr ⟨tb_1 _ (List.mem_of_getElem? (i := 140) (by decide +kernel)), List.forall_mem_cons.mpr ⟨tb_1 _ (List.mem_of_getElem? (i := 141) (by decide +kernel)), List.forall_mem_cons.mpr ⟨tb_1 _ (List.mem_of_getElem? (i := 145) (by decide +kernel)), List.forall_mem_cons.mpr ⟨tb_1 _ (List.mem_of_getElem? (i := 11) (by decide +kernel)), List.forall_mem_cons.mpr ⟨tb_1 _ (List.mem_of_getElem? (i := 213) (by decide +kernel)), List.forall_mem_cons.mpr ⟨tb_1 _ (List.mem_of_getElem? (i := 12) (by decide +kernel)), List.forall_mem_cons.mpr ⟨tb_1 _ (List.mem_of_getElem? (i := 233) (by decide +kernel)), List.forall_mem_cons.mpr ⟨tb_1 _ (List.mem_of_getElem? (i := 13) (by decide +kernel)), List.forall_mem_cons.mpr ⟨tb_2 _ (List.mem_of_getElem? (i := 9) (by decide +kernel)), List.forall_mem_cons.mpr ⟨tb_2 _ (List.mem_of_getElem? (i := 10) (by decide +kernel)), List.forall_mem_cons.mpr ⟨tb_1 _ (List.mem_of_getElem? (i := 14) (by decide +kernel)), List.forall_mem_cons.mpr ⟨tb_1 _ (List.mem_of_getElem? (i := 142) (by decide +kernel)), List.forall_mem_cons.mpr ⟨tb_1 _ (List.mem_of_getElem? (i := 143) (by decide +kernel)), List.forall_mem_cons.mpr ⟨tb_1 _ (List.mem_of_getElem? (i := 144) (by decide +kernel)), List.forall_mem_cons.mpr ⟨tb_1 _ (List.mem_of_getElem? (i := 229) (by decide +kernel)), List.forall_mem_cons.mpr ⟨tb_1 _ (List.mem_of_getElem? (i := 230) (by decide +kernel)), List.forall_mem_cons.mpr ⟨tb_1 _ (List.mem_of_getElem? (i := 231) (by decide +kernel)), List.forall_mem_cons.mpr ⟨tb_1 _ (List.mem_of_getElem? (i := 232) (by decide +kernel)), fun _ h => absurd h List.not_mem_nil⟩⟩⟩⟩⟩⟩⟩⟩⟩⟩⟩⟩⟩⟩⟩⟩⟩⟩⟩⟩⟩⟩⟩⟩
set_option maxRecDepth 20000 in
theorem wr_4 : ∀ w ∈ wsL_law0_r5, w ∈ lw_tbl := List.forall_mem_cons.mpr ⟨tb_1 _ (List.mem_of_getElem? (i := 49) (by decide +kernel)), List.forall_mem_cons.mpr ⟨tb_2 _ (List.mem_of_getElem? (i := 11) (by decide +kernel)), List.forall_mem_cons.mpr ⟨tb_2 _ (List.mem_of_getElem? (i := 12) (by decide +kernel)), List.forall_mem_cons.mpr ⟨tb_2 _ (List.mem_of_getElem? (i := 13) (by decide +kernel)), List.forall_mem_cons.mpr ⟨tb_2 _ (List.mem_of_getElem? (i := 14) (by decide +kernel)), List.forall_mem_cons.mpr ⟨tb_2 _ (List.mem_of_getElem? (i := 21) (by decide +kernel)), List.forall_mem_cons.mpr ⟨tb_2 _ (List.mem_of_getElem? (i := 23) (by decide +kernel)), List.forall_mem_cons.mpr ⟨tb_2 _ (List.mem_of_getElem? (i := 25) (by decide +kernel)), List.forall_mem_cons.mpr ⟨tb_2 _ (List.mem_of_getElem? (i := 27) (by decide +kernel)), List.forall_mem_cons.mpr ⟨tb_2 _ (List.mem_of_getElem? (i := 15) (by decide +kernel)), List.forall_mem_cons.mpr ⟨tb_2 _ (List.mem_of_getElem? (i := 17) (by decide +kernel)), List.forall_mem_cons.mpr ⟨tb_2 _ (List.mem_of_getElem? (i := 19) (by decide +kernel)), List.forall_mem_cons.mpr ⟨tb_2 _ (List.mem_of_getElem? (i := 44) (by decide +kernel)), List.forall_mem_cons.mpr ⟨tb_2 _ (List.mem_of_getElem? (i := 45) (by decide +kernel)), List.forall_mem_cons.mpr ⟨tb_2 _ (List.mem_of_getElem? (i := 46) (by decide +kernel)), List.forall_mem_cons.mpr ⟨tb_2 _ (List.mem_of_getElem? (i := 47) (by decide +kernel)), List.forall_mem_cons.mpr ⟨tb_1 _ (List.mem_of_getElem? (i := 51) (by decide +kernel)), List.forall_mem_cons.mpr ⟨tb_1 _ (List.mem_of_getElem? (i := 52) (by decide +kernel)), List.forall_mem_cons.mpr ⟨tb_2 _ (List.mem_of_getElem? (i := 48) (by decide +kernel)), List.forall_mem_cons.mpr ⟨tb_2 _ (List.mem_of_getElem? (i := 50) (by decide +kernel)), List.forall_mem_cons.mpr ⟨List.mem_append_left _ (List.mem_of_getElem? (i := 1) (by decide +kernel)), List.forall_mem_cons.mpr ⟨tb_2 _ (List.mem_of_getElem? (i := 51) (by decide +kernel)), List.forall_mem_cons.mpr ⟨tb_2 _ (List.mem_of_getElem? (i := 52) (by decide +kernel)), List.forall_mem_cons.mpr ⟨tb_2 _ (List.mem_of_getElem? (i := 54) (by decide +kernel)), fun _ h => absurd h List.not_mem_nil⟩⟩⟩⟩⟩⟩⟩⟩⟩⟩⟩⟩⟩⟩⟩⟩⟩⟩⟩⟩⟩⟩⟩⟩
set_option maxRecDepth 20000 in
theorem wr_5 : ∀ w ∈ wsL_law0_r6, w ∈ lw_tbl := List.forall_mem_cons.mpr ⟨List.mem_append_left _ (List.mem_of_getElem? (i := 2) (by decide +kernel)), List.forall_mem_cons.mpr ⟨tb_2 _ (List.mem_of_getElem? (i := 55) (by decide +kernel)), List.forall_mem_cons.mpr ⟨tb_2 _ (List.mem_of_getElem? (i := 56) (by decide +kernel)), List.forall_mem_cons.mpr ⟨tb_2 _ (List.mem_of_getElem? (i := 58) (by decide +kernel)), List.forall_mem_cons.mpr ⟨List.mem_append_left _ (List.mem_of_getElem? (i := 3) (by decide +kernel)), List.forall_mem_cons.mpr ⟨tb_2 _ (List.mem_of_getElem? (i := 59) (by decide +kernel)), List.forall_mem_cons.mpr ⟨tb_2 _ (List.mem_of_getElem? (i := 99) (by decide +kernel)), List.forall_mem_cons.mpr ⟨tb_2 _ (List.mem_of_getElem? (i := 64) (by decide +kernel)), List.forall_mem_cons.mpr ⟨tb_1 _ (List.mem_of_getElem? (i := 16) (by decide +kernel)), List.forall_mem_cons.mpr ⟨tb_2 _ (List.mem_of_getElem? (i := 65) (by decide +kernel)), List.forall_mem_cons.mpr ⟨tb_2 _ (List.mem_of_getElem? (i := 100) (by decide +kernel)), List.forall_mem_cons.mpr ⟨tb_2 _ (List.mem_of_getElem? (i := 60) (by decide +kernel)), List.forall_mem_cons.mpr ⟨tb_2 _ (List.mem_of_getElem? (i := 61) (by decide +kernel)), List.forall_mem_cons.mpr ⟨tb_1 _ (List.mem_of_getElem? (i := 15) (by decide +kernel)), List.forall_mem_cons.mpr ⟨tb_2 _ (List.mem_of_getElem? (i := 62) (by decide +kernel)), List.forall_mem_cons.mpr ⟨tb_2 _ (List.mem_of_getElem? (i := 63) (by decide +kernel)), List.forall_mem_cons.mpr ⟨tb_2 _ (List.mem_of_getElem? (i := 66) (by decide +kernel)), List.forall_mem_cons.mpr ⟨tb_2 _ (List.mem_of_getElem? (i := 67) (by decide +kernel)), List.forall_mem_cons.mpr ⟨tb_2 _ (List.mem_of_getElem? (i := 68) (by decide +kernel)), List.forall_mem_cons.mpr ⟨tb_2 _ (List.mem_of_getElem? (i := 69) (by decide +kernel)), List.forall_mem_cons.mpr ⟨tb_2 _ (List.mem_of_getElem? (i := 70) (by decide +kernel)), List.forall_mem_cons.mpr ⟨tb_2 _ (List.mem_of_getElem? (i := 71) (by decide +kernel)), List.forall_mem_cons.mpr ⟨tb_1 _ (List.mem_of_getElem? (i := 17) (by decide +kernel)), List.forall_mem_cons.mpr ⟨tb_2 _ (List.mem_of_getElem? (i := 72) (by decide +kernel)), fun _ h => absurd h List.not_mem_nil⟩⟩⟩⟩⟩⟩⟩⟩⟩⟩⟩⟩⟩⟩⟩⟩⟩⟩⟩⟩⟩⟩⟩⟩
set_option maxRecDepth 20000 in
theorem wr_6 : ∀ w ∈ wsL_law0_r7, w ∈ lw_tbl := List.forall_mem_cons.mpr ⟨tb_2 _ (List.mem_of_getElem? (i := 73) (by decide +kernel)), List.forall_mem_cons.mpr ⟨tb_3 _ (List.mem_of_getElem? (i := 158) (by decide +kernel)), List.forall_mem_cons.mpr ⟨tb_2 _ (List.mem_of_getElem? (i := 74) (by decide +kernel)), List.forall_mem_cons.mpr ⟨tb_2 _ (List.mem_of_getElem? (i := 86) (by decide +kernel)), List.forall_mem_cons.mpr ⟨tb_2 _ (List.mem_of_getElem? (i := 87) (by decide +kernel)), List.forall_mem_cons.mpr ⟨tb_2 _ (List.mem_of_getElem? (i := 88) (by decide +kernel)), List.forall_mem_cons.mpr ⟨tb_2 _ (List.mem_of_getElem? (i := 89) (by decide +kernel)), List.forall_mem_cons.mpr ⟨tb_2 _ (List.mem_of_getElem? (i := 90) (by decide +kernel)), List.forall_mem_cons.mpr ⟨tb_2 _ (List.mem_of_getElem? (i := 92) (by decide +kernel)), List.forall_mem_cons.mpr ⟨tb_2 _ (List.mem_of_getElem? (i := 93) (by decide +kernel)), List.forall_mem_cons.mpr ⟨tb_2 _ (List.mem_of_getElem? (i := 94) (by decide +kernel)), List.forall_mem_cons.mpr ⟨tb_2 _ (List.mem_of_getElem? (i := 95) (by decide +kernel)), List.forall_mem_cons.mpr ⟨tb_2 _ (List.mem_of_getElem? (i := 96) (by decide +kernel)), List.forall_mem_cons.mpr ⟨tb_2 _ (List.mem_of_getElem? (i := 98) (by decide +kernel)), List.forall_mem_cons.mpr ⟨tb_2 _ (List.mem_of_getElem? (i := 97) (by decide +kernel)), List.forall_mem_cons.mpr ⟨tb_1 _ (List.mem_of_getElem? (i := 18) (by decide +kernel)), List.forall_mem_cons.mpr ⟨tb_3 _ (List.mem_of_getElem? (i := 100) (by decide +kernel)), List.forall_mem_cons.mpr ⟨tb_3 _ (List.mem_of_getElem? (i := 101) (by decide +kernel)), List.forall_mem_cons.mpr ⟨tb_3 _ (List.mem_of_getElem? (i := 102) (by decide +kernel)), List.forall_mem_cons.mpr ⟨tb_3 _ (List.mem_of_getElem? (i := 103) (by decide +kernel)), List.forall_mem_cons.mpr ⟨tb_3 _ (List.mem_of_getElem? (i := 104) (by decide +kernel)), List.forall_mem_cons.mpr ⟨tb_3 _ (List.mem_of_getElem? (i := 105) (by decide +kernel)), List.forall_mem_cons.mpr ⟨tb_3 _ (List.mem_of_getElem? (i := 106) (by decide +kernel)), List.forall_mem_cons.mpr ⟨tb_3 _ (List.mem_of_getElem? (i := 107) (by decide +kernel)), fun _ h => absurd h List.not_mem_nil⟩⟩⟩⟩⟩⟩⟩⟩⟩⟩⟩⟩⟩⟩⟩⟩⟩⟩⟩⟩⟩⟩⟩⟩
set_option maxRecDepth 20000 in
theorem wr_7 : ∀ w ∈ wsL_law0_r8, w ∈ lw_tbl := List.forall_mem_cons.mpr ⟨tb_3 _ (List.mem_of_getElem? (i := 109) (by decide +kernel)), List.forall_mem_cons.mpr ⟨tb_2 _ (List.mem_of_getElem? (i := 156) (by decide +kernel)), List.forall_mem_cons.mpr ⟨tb_2 _ (List.mem_of_getElem? (i := 158) (by decide +kernel)), List.forall_mem_cons.mpr ⟨List.mem_append_left _ (List.mem_of_getElem? (i := 8) (by decide +kernel)), List.forall_mem_cons.mpr ⟨tb_2 _ (List.mem_of_getElem? (i := 159) (by decide +kernel)), List.forall_mem_cons.mpr ⟨tb_3 _ (List.mem_of_getElem? (i := 111) (by decide +kernel)), List.forall_mem_cons.mpr ⟨tb_3 _ (List.mem_of_getElem? (i := 112) (by decide +kernel)), List.forall_mem_cons.mpr ⟨tb_3 _ (List.mem_of_getElem? (i := 113) (by decide +kernel)), List.forall_mem_cons.mpr ⟨tb_3 _ (List.mem_of_getElem? (i := 114) (by decide +kernel)), List.forall_mem_cons.mpr ⟨tb_3 _ (List.mem_of_getElem? (i := 116) (by decide +kernel)), List.forall_mem_cons.mpr ⟨tb_3 _ (List.mem_of_getElem? (i := 117) (by decide +kernel)), List.forall_mem_cons.mpr ⟨tb_3 _ (List.mem_of_getElem? (i := 118) (by decide +kernel)), List.forall_mem_cons.mpr ⟨tb_3 _ (List.mem_of_getElem? (i := 119) (by decide +kernel)), List.forall_mem_cons.mpr ⟨tb_3 _ (List.mem_of_getElem? (i := 122) (by decide +kernel)), List.forall_mem_cons.mpr ⟨tb_3 _ (List.mem_of_getElem? (i := 123) (by decide +kernel)), List.forall_mem_cons.mpr ⟨tb_3 _ (List.mem_of_getElem? (i := 124) (by decide +kernel)), List.forall_mem_cons.mpr ⟨tb_3 _ (List.mem_of_getElem? (i := 125) (by decide +kernel)), List.forall_mem_cons.mpr ⟨tb_2 _ (List.mem_of_getElem? (i := 160) (by decide +kernel)), List.forall_mem_cons.mpr ⟨tb_2 _ (List.mem_of_getElem? (i := 161) (by decide +kernel)), List.forall_mem_cons.mpr ⟨tb_2 _ (List.mem_of_getElem? (i := 162) (by decide +kernel)), List.forall_mem_cons.mpr ⟨tb_2 _ (List.mem_of_getElem? (i := 163) (by decide +kernel)), List.forall_mem_cons.mpr ⟨tb_2 _ (List.mem_of_getElem? (i := 164) (by decide +kernel)), List.forall_mem_cons.mpr ⟨tb_2 _ (List.mem_of_getElem? (i := 165) (by decide +kernel)), List.forall_mem_cons.mpr ⟨tb_3 _ (List.mem_of_getElem? (i := 126) (by decide +kernel)), fun _ h => absurd h List.not_mem_nil⟩⟩⟩⟩⟩⟩⟩⟩⟩⟩⟩⟩⟩⟩⟩⟩⟩⟩⟩⟩⟩⟩⟩⟩
set_option maxRecDepth 20000 in
theorem wr_8 : ∀ w ∈ wsL_law0_r9, w ∈ lw_tbl := List.forall_mem_cons.mpr ⟨tb_3 _ (List.mem_of_getElem? (i := 127) (by decide +kernel)), List.forall_mem_cons.mpr ⟨tb_3 _ (List.mem_of_getElem? (i := 128) (by decide +kernel)), List.forall_mem_cons.mpr ⟨tb_2 _ (List.mem_of_getElem? (i := 213) (by decide +kernel)), List.forall_mem_cons.mpr ⟨tb_2 _ (List.mem_of_getElem? (i := 214) (by decide +kernel)), List.forall_mem_cons.mpr ⟨tb_2 _ (List.mem_of_getElem? (i := 215) (by decide +kernel)), List.forall_mem_cons.mpr ⟨tb_2 _ (List.mem_of_getElem? (i := 216) (by decide +kernel)), List.forall_mem_cons.mpr ⟨tb_2 _ (List.mem_of_getElem? (i := 217) (by decide +kernel)), List.forall_mem_cons.mpr ⟨tb_2 _ (List.mem_of_getElem? (i := 218) (by decide +kernel)), List.forall_mem_cons.mpr ⟨tb_2 _ (List.mem_of_getElem? (i := 219) (by decide +kernel)), List.forall_mem_cons.mpr ⟨tb_2 _ (List.mem_of_getElem? (i := 220) (by decide +kernel)), List.forall_mem_cons.mpr ⟨tb_2 _ (List.mem_of_getElem? (i := 221) (by decide +kernel)), List.forall_mem_cons.mpr ⟨tb_2 _ (List.mem_of_getElem? (i := 223) (by decide +kernel)), List.forall_mem_cons.mpr ⟨List.mem_append_left _ (List.mem_of_getElem? (i := 9) (by decide +kernel)), List.forall_mem_cons.mpr ⟨tb_2 _ (List.mem_of_getElem? (i := 224) (by decide +kernel)), List.forall_mem_cons.mpr ⟨tb_2 _ (List.mem_of_getElem? (i := 227) (by decide +kernel)), List.forall_mem_cons.mpr ⟨tb_2 _ (List.mem_of_getElem? (i := 228) (by decide +kernel)), List.forall_mem_cons.mpr ⟨tb_2 _ (List.mem_of_getElem? (i := 229) (by decide +kernel)), List.forall_mem_cons.mpr ⟨tb_2 _ (List.mem_of_getElem? (i := 230) (by decide +kernel)), List.forall_mem_cons.mpr ⟨tb_2 _ (List.mem_of_getElem? (i := 231) (by decide +kernel)), List.forall_mem_cons.mpr ⟨tb_2 _ (List.mem_of_getElem? (i := 233) (by decide +kernel)), List.forall_mem_cons.mpr ⟨List.mem_append_left _ (List.mem_of_getElem? (i := 10) (by decide +kernel)), List.forall_mem_cons.mpr ⟨tb_2 _ (List.mem_of_getElem? (i := 234) (by decide +kernel)), List.forall_mem_cons.mpr ⟨tb_2 _ (List.mem_of_getElem? (i := 9) (by decide +kernel)), List.forall_mem_cons.mpr ⟨tb_2 _ (List.mem_of_getElem? (i := 111) (by decide +kernel)), fun _ h => absurd h List.not_mem_nil⟩⟩⟩⟩⟩⟩⟩⟩⟩⟩⟩⟩⟩⟩⟩⟩⟩⟩⟩⟩⟩⟩⟩⟩
set_option maxRecDepth 20000 in
theorem wr_9 : ∀ w ∈ wsL_law0_r10, w ∈ lw_tbl := List.forall_mem_cons.mpr ⟨tb_2 _ (List.mem_of_getElem? (i := 112) (by decide +kernel)), List.forall_mem_cons.mpr ⟨tb_2 _ (List.mem_of_getElem? (i := 113) (by decide +kernel)), List.forall_mem_cons.mpr ⟨tb_2 _ (List.mem_of_getElem? (i := 114) (by decide +kernel)), List.forall_mem_cons.mpr ⟨tb_2 _ (List.mem_of_getElem? (i := 115) (by decide +kernel)), List.forall_mem_cons.mpr ⟨tb_2 _ (List.mem_of_getElem? (i := 116) (by decide +kernel)), List.forall_mem_cons.mpr ⟨tb_1 _ (List.mem_of_getElem? (i := 19) (by decide +kernel)), List.forall_mem_cons.mpr ⟨tb_2 _ (List.mem_of_getElem? (i := 117) (by decide +kernel)), List.forall_mem_cons.mpr ⟨tb_2 _ (List.mem_of_getElem? (i := 118) (by decide +kernel)), List.forall_mem_cons.mpr ⟨tb_2 _ (List.mem_of_getElem? (i := 119) (by decide +kernel)), List.forall_mem_cons.mpr ⟨tb_1 _ (List.mem_of_getElem? (i := 20) (by decide +kernel)), List.forall_mem_cons.mpr ⟨tb_2 _ (List.mem_of_getElem? (i := 120) (by decide +kernel)), List.forall_mem_cons.mpr ⟨tb_2 _ (List.mem_of_getElem? (i := 121) (by decide +kernel)), List.forall_mem_cons.mpr ⟨tb_2 _ (List.mem_of_getElem? (i := 122) (by decide +kernel)), List.forall_mem_cons.mpr ⟨tb_2 _ (List.mem_of_getElem? (i := 123) (by decide +kernel)), List.forall_mem_cons.mpr ⟨tb_2 _ (List.mem_of_getElem? (i := 124) (by decide +kernel)), List.forall_mem_cons.mpr ⟨tb_2 _ (List.mem_of_getElem? (i := 237) (by decide +kernel)), List.forall_mem_cons.mpr ⟨tb_2 _ (List.mem_of_getElem? (i := 238) (by decide +kernel)), List.forall_mem_cons.mpr ⟨tb_2 _ (List.mem_of_getElem? (i := 239) (by decide +kernel)), List.forall_mem_cons.mpr ⟨tb_3 _ (List.mem_of_getElem? (i := 0) (by decide +kernel)), List.forall_mem_cons.mpr ⟨tb_2 _ (List.mem_of_getElem? (i := 176) (by decide +kernel)), List.forall_mem_cons.mpr ⟨tb_2 _ (List.mem_of_getElem? (i := 170) (by decide +kernel)), List.forall_mem_cons.mpr ⟨tb_2 _ (List.mem_of_getElem? (i := 175) (by decide +kernel)), List.forall_mem_cons.mpr ⟨tb_3 _ (List.mem_of_getElem? (i := 1) (by decide +kernel)), List.forall_mem_cons.mpr ⟨tb_3 _ (List.mem_of_getElem? (i := 2) (by decide +kernel)), fun _ h => absurd h List.not_mem_nil⟩⟩⟩⟩⟩⟩⟩⟩⟩⟩⟩⟩⟩⟩⟩⟩⟩⟩⟩⟩⟩⟩⟩⟩
set_option maxRecDepth 20000 in
theorem wr_10 : ∀ w ∈ wsL_law0_r11, w ∈ lw_tbl := List.forall_mem_cons.mpr ⟨tb_3 _ (List.mem_of_getElem? (i := 3) (by decide +kernel)), List.forall_mem_cons.mpr ⟨tb_3 _ (List.mem_of_getElem? (i := 4) (by decide +kernel)), List.forall_mem_cons.mpr ⟨tb_3 _ (List.mem_of_getElem? (i := 5) (by decide +kernel)), List.forall_mem_cons.mpr ⟨tb_3 _ (List.mem_of_getElem? (i := 7) (by decide +kernel)), List.forall_mem_cons.mpr ⟨List.mem_append_left _ (List.mem_of_getElem? (i := 11) (by decide +kernel)), List.forall_mem_cons.mpr ⟨tb_3 _ (List.mem_of_getElem? (i := 8) (by decide +kernel)), List.forall_mem_cons.mpr ⟨tb_3 _ (List.mem_of_getElem? (i := 9) (by decide +kernel)), List.forall_mem_cons.mpr ⟨tb_3 _ (List.mem_of_getElem? (i := 10) (by decide +kernel)), List.forall_mem_cons.mpr ⟨tb_3 _ (List.mem_of_getElem? (i := 11) (by decide +kernel)), List.forall_mem_cons.mpr ⟨tb_3 _ (List.mem_of_getElem? (i := 12) (by decide +kernel)), List.forall_mem_cons.mpr ⟨tb_3 _ (List.mem_of_getElem? (i := 13) (by decide +kernel)), List.forall_mem_cons.mpr ⟨tb_2 _ (List.mem_of_getElem? (i := 141) (by decide +kernel)), List.forall_mem_cons.mpr ⟨tb_3 _ (List.mem_of_getElem? (i := 21) (by decide +kernel)), List.forall_mem_cons.mpr ⟨tb_3 _ (List.mem_of_getElem? (i := 14) (by decide +kernel)), List.forall_mem_cons.mpr ⟨tb_3 _ (List.mem_of_getElem? (i := 16) (by decide +kernel)), List.forall_mem_cons.mpr ⟨List.mem_append_left _ (List.mem_of_getElem? (i := 12) (by decide +kernel)), List.forall_mem_cons.mpr ⟨tb_3 _ (List.mem_of_getElem? (i := 17) (by decide +kernel)), List.forall_mem_cons.mpr ⟨tb_3 _ (List.mem_of_getElem? (i := 141) (by decide +kernel)), List.forall_mem_cons.mpr ⟨tb_3 _ (List.mem_of_getElem? (i := 142) (by decide +kernel)), List.forall_mem_cons.mpr ⟨tb_3 _ (List.mem_of_getElem? (i := 143) (by decide +kernel)), List.forall_mem_cons.mpr ⟨tb_2 _ (List.mem_of_getElem? (i := 101) (by decide +kernel)), List.forall_mem_cons.mpr ⟨tb_2 _ (List.mem_of_getElem? (i := 102) (by decide +kernel)), List.forall_mem_cons.mpr ⟨tb_2 _ (List.mem_of_getElem? (i := 103) (by decide +kernel)), List.forall_mem_cons.mpr ⟨tb_2 _ (List.mem_of_getElem? (i := 104) (by decide +kernel)), fun _ h => absurd h List.not_mem_nil⟩⟩⟩⟩⟩⟩⟩⟩⟩⟩⟩⟩⟩⟩⟩⟩⟩⟩⟩⟩⟩⟩⟩⟩
set_option maxRecDepth 20000 in
theorem wr_11 : ∀ w ∈ wsL_law0_r12, w ∈ lw_tbl := List.forall_mem_cons.mpr ⟨tb_2 _ (List.mem_of_getElem? (i := 107) (by decide +kernel)), List.forall_mem_cons.mpr ⟨tb_2 _ (List.mem_of_getElem? (i := 109) (by decide +kernel)), List.forall_mem_cons.mpr ⟨List.mem_append_left _ (List.mem_of_getElem? (i := 4) (by decide +kernel)), List.forall_mem_cons.mpr ⟨tb_2 _ (List.mem_of_getElem? (i := 110) (by decide +kernel)), List.forall_mem_cons.mpr ⟨tb_2 _ (List.mem_of_getElem? (i := 125) (by decide +kernel)), List.forall_mem_cons.mpr ⟨tb_2 _ (List.mem_of_getElem? (i := 127) (by decide +kernel)), List.forall_mem_cons.mpr ⟨List.mem_append_left _ (List.mem_of_getElem? (i := 5) (by decide +kernel)), List.forall_mem_cons.mpr ⟨tb_2 _ (List.mem_of_getElem? (i := 128) (by decide +kernel)), List.forall_mem_cons.mpr ⟨tb_2 _ (List.mem_of_getElem? (i := 129) (by decide +kernel)), List.forall_mem_cons.mpr ⟨tb_2 _ (List.mem_of_getElem? (i := 130) (by decide +kernel)), List.forall_mem_cons.mpr ⟨tb_2 _ (List.mem_of_getElem? (i := 131) (by decide +kernel)), List.forall_mem_cons.mpr ⟨tb_2 _ (List.mem_of_getElem? (i := 132) (by decide +kernel)), List.forall_mem_cons.mpr ⟨tb_2 _ (List.mem_of_getElem? (i := 133) (by decide +kernel)), List.forall_mem_cons.mpr ⟨tb_2 _ (List.mem_of_getElem? (i := 134) (by decide +kernel)), List.forall_mem_cons.mpr ⟨tb_2 _ (List.mem_of_getElem? (i := 135) (by decide +kernel)), List.forall_mem_cons.mpr ⟨tb_2 _ (List.mem_of_getElem? (i := 136) (by decide +kernel)), List.forall_mem_cons.mpr ⟨tb_2 _ (List.mem_of_getElem? (i := 137) (by decide +kernel)), List.forall_mem_cons.mpr ⟨tb_2 _ (List.mem_of_getElem? (i := 138) (by decide +kernel)), List.forall_mem_cons.mpr ⟨tb_2 _ (List.mem_of_getElem? (i := 139) (by decide +kernel)), List.forall_mem_cons.mpr ⟨tb_1 _ (List.mem_of_getElem? (i := 16) (by decide +kernel)), List.forall_mem_cons.mpr ⟨tb_2 _ (List.mem_of_getElem? (i := 140) (by decide +kernel)), List.forall_mem_cons.mpr ⟨tb_2 _ (List.mem_of_getElem? (i := 142) (by decide +kernel)), List.forall_mem_cons.mpr ⟨tb_2 _ (List.mem_of_getElem? (i := 144) (by decide +kernel)), List.forall_mem_cons.mpr ⟨List.mem_append_left _ (List.mem_of_getElem? (i := 6) (by decide +kernel)), fun _ h => absurd h List.not_mem_nil⟩⟩⟩⟩⟩⟩⟩⟩⟩⟩⟩⟩⟩⟩⟩⟩⟩⟩⟩⟩⟩⟩⟩⟩
set_option maxRecDepth 20000 in
theorem wr_12 : ∀ w ∈ wsL_law0_r13, w ∈ lw_tbl := List.forall_mem_cons.mpr ⟨tb_2 _ (List.mem_of_getElem? (i := 145) (by decide +kernel)), List.forall_mem_cons.mpr ⟨tb_2 _ (List.mem_of_getElem? (i := 146) (by decide +kernel)), List.forall_mem_cons.mpr ⟨tb_2 _ (List.mem_of_getElem? (i := 147) (by decide +kernel)), List.forall_mem_cons.mpr ⟨tb_2 _ (List.mem_of_getElem? (i := 148) (by decide +kernel)), List.forall_mem_cons.mpr ⟨tb_2 _ (List.mem_of_getElem? (i := 149) (by decide +kernel)), List.forall_mem_cons.mpr ⟨tb_2 _ (List.mem_of_getElem? (i := 150) (by decide +kernel)), List.forall_mem_cons.mpr ⟨tb_2 _ (List.mem_of_getElem? (i := 151) (by decide +kernel)), List.forall_mem_cons.mpr ⟨tb_2 _ (List.mem_of_getElem? (i := 152) (by decide +kernel)), List.forall_mem_cons.mpr ⟨tb_2 _ (List.mem_of_getElem? (i := 154) (by decide +kernel)), List.forall_mem_cons.mpr ⟨List.mem_append_left _ (List.mem_of_getElem? (i := 7) (by decide +kernel)), List.forall_mem_cons.mpr ⟨tb_2 _ (List.mem_of_getElem? (i := 155) (by decide +kernel)), List.forall_mem_cons.mpr ⟨tb_2 _ (List.mem_of_getElem? (i := 166) (by decide +kernel)), List.forall_mem_cons.mpr ⟨tb_2 _ (List.mem_of_getElem? (i := 167) (by decide +kernel)), List.forall_mem_cons.mpr ⟨tb_2 _ (List.mem_of_getElem? (i := 168) (by decide +kernel)), List.forall_mem_cons.mpr ⟨tb_2 _ (List.mem_of_getElem? (i := 169) (by decide +kernel)), List.forall_mem_cons.mpr ⟨tb_2 _ (List.mem_of_getElem? (i := 176) (by decide +kernel)), List.forall_mem_cons.mpr ⟨tb_2 _ (List.mem_of_getElem? (i := 181) (by decide +kernel)), List.forall_mem_cons.mpr ⟨tb_1 _ (List.mem_of_getElem? (i := 21) (by decide +kernel)), List.forall_mem_cons.mpr ⟨tb_2 _ (List.mem_of_getElem? (i := 171) (by decide +kernel)), List.forall_mem_cons.mpr ⟨tb_2 _ (List.mem_of_getElem? (i := 172) (by decide +kernel)), List.forall_mem_cons.mpr ⟨tb_2 _ (List.mem_of_getElem? (i := 173) (by decide +kernel)), List.forall_mem_cons.mpr ⟨tb_2 _ (List.mem_of_getElem? (i := 174) (by decide +kernel)), List.forall_mem_cons.mpr ⟨tb_2 _ (List.mem_of_getElem? (i := 177) (by decide +kernel)), List.forall_mem_cons.mpr ⟨tb_2 _ (List.mem_of_getElem? (i := 178) (by decide +kernel)), fun _ h => absurd h List.not_mem_nil⟩⟩⟩⟩⟩⟩⟩⟩⟩⟩⟩⟩⟩⟩⟩⟩⟩⟩⟩⟩⟩⟩⟩⟩
set_option maxRecDepth 20000 in
theorem wr_13 : ∀ w ∈ wsL_law0_r14, w ∈ lw_tbl := List.forall_mem_cons.mpr ⟨tb_2 _ (List.mem_of_getElem? (i := 179) (by decide +kernel)), List.forall_mem_cons.mpr ⟨tb_2 _ (List.mem_of_getElem? (i := 180) (by decide +kernel)), List.forall_mem_cons.mpr ⟨tb_2 _ (List.mem_of_getElem? (i := 186) (by decide +kernel)), List.forall_mem_cons.mpr ⟨tb_2 _ (List.mem_of_getElem? (i := 187) (by decide +kernel)), List.forall_mem_cons.mpr ⟨tb_2 _ (List.mem_of_getElem? (i := 188) (by decide +kernel)), List.forall_mem_cons.mpr ⟨tb_2 _ (List.mem_of_getElem? (i := 182) (by decide +kernel)), List.forall_mem_cons.mpr ⟨tb_2 _ (List.mem_of_getElem? (i := 183) (by decide +kernel)), List.forall_mem_cons.mpr ⟨tb_2 _ (List.mem_of_getElem? (i := 184) (by decide +kernel)), List.forall_mem_cons.mpr ⟨tb_2 _ (List.mem_of_getElem? (i := 185) (by decide +kernel)), List.forall_mem_cons.mpr ⟨tb_2 _ (List.mem_of_getElem? (i := 189) (by decide +kernel)), List.forall_mem_cons.mpr ⟨tb_2 _ (List.mem_of_getElem? (i := 200) (by decide +kernel)), List.forall_mem_cons.mpr ⟨tb_2 _ (List.mem_of_getElem? (i := 201) (by decide +kernel)), List.forall_mem_cons.mpr ⟨tb_2 _ (List.mem_of_getElem? (i := 202) (by decide +kernel)), List.forall_mem_cons.mpr ⟨tb_2 _ (List.mem_of_getElem? (i := 203) (by decide +kernel)), List.forall_mem_cons.mpr ⟨tb_3 _ (List.mem_of_getElem? (i := 129) (by decide +kernel)), List.forall_mem_cons.mpr ⟨tb_3 _ (List.mem_of_getElem? (i := 130) (by decide +kernel)), List.forall_mem_cons.mpr ⟨tb_3 _ (List.mem_of_getElem? (i := 131) (by decide +kernel)), List.forall_mem_cons.mpr ⟨tb_3 _ (List.mem_of_getElem? (i := 132) (by decide +kernel)), List.forall_mem_cons.mpr ⟨tb_3 _ (List.mem_of_getElem? (i := 133) (by decide +kernel)), List.forall_mem_cons.mpr ⟨tb_3 _ (List.mem_of_getElem? (i := 134) (by decide +kernel)), List.forall_mem_cons.mpr ⟨tb_3 _ (List.mem_of_getElem? (i := 53) (by decide +kernel)), List.forall_mem_cons.mpr ⟨tb_3 _ (List.mem_of_getElem? (i := 54) (by decide +kernel)), List.forall_mem_cons.mpr ⟨tb_3 _ (List.mem_of_getElem? (i := 55) (by decide +kernel)), List.forall_mem_cons.mpr ⟨tb_3 _ (List.mem_of_getElem? (i := 135) (by decide +kernel)), fun _ h => absurd h List.not_mem_nil⟩⟩⟩⟩⟩⟩⟩⟩⟩⟩⟩⟩⟩⟩⟩⟩⟩⟩⟩⟩⟩⟩⟩⟩
set_option maxRecDepth 20000 in
theorem wr_14 : ∀ w ∈ wsL_law0_r15, w ∈ lw_tbl := List.forall_mem_cons.mpr ⟨tb_3 _ (List.mem_of_getElem? (i := 136) (by decide +kernel)), List.forall_mem_cons.mpr ⟨tb_3 _ (List.mem_of_getElem? (i := 137) (by decide +kernel)), List.forall_mem_cons.mpr ⟨tb_3 _ (List.mem_of_getElem? (i := 138) (by decide +kernel)), List.forall_mem_cons.mpr ⟨tb_3 _ (List.mem_of_getElem? (i := 139) (by decide +kernel)), List.forall_mem_cons.mpr ⟨tb_3 _ (List.mem_of_getElem? (i := 140) (by decide +kernel)), List.forall_mem_cons.mpr ⟨tb_3 _ (List.mem_of_getElem? (i := 84) (by decide +kernel)), List.forall_mem_cons.mpr ⟨tb_3 _ (List.mem_of_getElem? (i := 85) (by decide +kernel)), List.forall_mem_cons.mpr ⟨tb_3 _ (List.mem_of_getElem? (i := 86) (by decide +kernel)), List.forall_mem_cons.mpr ⟨tb_3 _ (List.mem_of_getElem? (i := 22) (by decide +kernel)), List.forall_mem_cons.mpr ⟨tb_3 _ (List.mem_of_getElem? (i := 23) (by decide +kernel)), List.forall_mem_cons.mpr ⟨tb_3 _ (List.mem_of_getElem? (i := 24) (by decide +kernel)), List.forall_mem_cons.mpr ⟨tb_3 _ (List.mem_of_getElem? (i := 25) (by decide +kernel)), List.forall_mem_cons.mpr ⟨tb_3 _ (List.mem_of_getElem? (i := 26) (by decide +kernel)), List.forall_mem_cons.mpr ⟨tb_3 _ (List.mem_of_getElem? (i := 27) (by decide +kernel)), List.forall_mem_cons.mpr ⟨tb_3 _ (List.mem_of_getElem? (i := 28) (by decide +kernel)), List.forall_mem_cons.mpr ⟨tb_3 _ (List.mem_of_getElem? (i := 29) (by decide +kernel)), List.forall_mem_cons.mpr ⟨tb_3 _ (List.mem_of_getElem? (i := 30) (by decide +kernel)), List.forall_mem_cons.mpr ⟨tb_3 _ (List.mem_of_getElem? (i := 31) (by decide +kernel)), List.forall_mem_cons.mpr ⟨tb_3 _ (List.mem_of_getElem? (i := 32) (by decide +kernel)), List.forall_mem_cons.mpr ⟨tb_3 _ (List.mem_of_getElem? (i := 33) (by decide +kernel)), List.forall_mem_cons.mpr ⟨tb_3 _ (List.mem_of_getElem? (i := 34) (by decide +kernel)), List.forall_mem_cons.mpr ⟨tb_3 _ (List.mem_of_getElem? (i := 35) (by decide +kernel)), List.forall_mem_cons.mpr ⟨tb_3 _ (List.mem_of_getElem? (i := 36) (by decide +kernel)), List.forall_mem_cons.mpr ⟨tb_3 _ (List.mem_of_getElem? (i := 37) (by decide +kernel)), fun _ h => absurd h List.not_mem_nil⟩⟩⟩⟩⟩⟩⟩⟩⟩⟩⟩⟩⟩⟩⟩⟩⟩⟩⟩⟩⟩⟩⟩⟩
set_option maxRecDepth 20000 in
theorem wr_15 : ∀ w ∈ wsL_law0_r16, w ∈ lw_tbl := List.forall_mem_cons.mpr ⟨tb_3 _ (List.mem_of_getElem? (i := 38) (by decide +kernel)), List.forall_mem_cons.mpr ⟨tb_3 _ (List.mem_of_getElem? (i := 39) (by decide +kernel)), List.forall_mem_cons.mpr ⟨tb_3 _ (List.mem_of_getElem? (i := 40) (by decide +kernel)), List.forall_mem_cons.mpr ⟨tb_3 _ (List.mem_of_getElem? (i := 41) (by decide +kernel)), List.forall_mem_cons.mpr ⟨tb_3 _ (List.mem_of_getElem? (i := 42) (by decide +kernel)), List.forall_mem_cons.mpr ⟨tb_3 _ (List.mem_of_getElem? (i := 43) (by decide +kernel)), List.forall_mem_cons.mpr ⟨tb_3 _ (List.mem_of_getElem? (i := 44) (by decide +kernel)), List.forall_mem_cons.mpr ⟨tb_3 _ (List.mem_of_getElem? (i := 45) (by decide +kernel)), List.forall_mem_cons.mpr ⟨tb_3 _ (List.mem_of_getElem? (i := 46) (by decide +kernel)), List.forall_mem_cons.mpr ⟨tb_3 _ (List.mem_of_getElem? (i := 47) (by decide +kernel)), List.forall_mem_cons.mpr ⟨tb_3 _ (List.mem_of_getElem? (i := 48) (by decide +kernel)), List.forall_mem_cons.mpr ⟨tb_3 _ (List.mem_of_getElem? (i := 49) (by decide +kernel)), List.forall_mem_cons.mpr ⟨tb_3 _ (List.mem_of_getElem? (i := 50) (by decide +kernel)), List.forall_mem_cons.mpr ⟨tb_3 _ (List.mem_of_getElem? (i := 51) (by decide +kernel)), List.forall_mem_cons.mpr ⟨tb_3 _ (List.mem_of_getElem? (i := 52) (by decide +kernel)), List.forall_mem_cons.mpr ⟨tb_3 _ (List.mem_of_getElem? (i := 56) (by decide +kernel)), List.forall_mem_cons.mpr ⟨tb_3 _ (List.mem_of_getElem? (i := 57) (by decide +kernel)), List.forall_mem_cons.mpr ⟨tb_3 _ (List.mem_of_getElem? (i := 58) (by decide +kernel)), List.forall_mem_cons.mpr ⟨tb_3 _ (List.mem_of_getElem? (i := 59) (by decide +kernel)), List.forall_mem_cons.mpr ⟨tb_3 _ (List.mem_of_getElem? (i := 60) (by decide +kernel)), List.forall_mem_cons.mpr ⟨tb_3 _ (List.mem_of_getElem? (i := 61) (by decide +kernel)), List.forall_mem_cons.mpr ⟨tb_3 _ (List.mem_of_getElem? (i := 62) (by decide +kernel)), List.forall_mem_cons.mpr ⟨tb_3 _ (List.mem_of_getElem? (i := 63) (by decide +kernel)), List.forall_mem_cons.mpr ⟨tb_3 _ (List.mem_of_getElem? (i := 64) (by decide +kernel)), fun _ h => absurd h List.not_mem_nil⟩⟩⟩⟩⟩⟩⟩⟩⟩⟩⟩⟩⟩⟩⟩⟩⟩⟩⟩⟩⟩⟩⟩⟩
set_option maxRecDepth 20000 in
theorem wr_16 : ∀ w ∈ wsL_law0_r17, w ∈ lw_tbl := List.forall_mem_cons.mpr ⟨tb_3 _ (List.mem_of_getElem? (i := 65) (by decide +kernel)), List.forall_mem_cons.mpr ⟨tb_3 _ (List.mem_of_getElem? (i := 66) (by decide +kernel)), List.forall_mem_cons.mpr ⟨tb_3 _ (List.mem_of_getElem? (i := 67) (by decide +kernel)), List.forall_mem_cons.mpr ⟨tb_3 _ (List.mem_of_getElem? (i := 68) (by decide +kernel)), List.forall_mem_cons.mpr ⟨tb_3 _ (List.mem_of_getElem? (i := 69) (by decide +kernel)), List.forall_mem_cons.mpr ⟨tb_3 _ (List.mem_of_getElem? (i := 70) (by decide +kernel)), List.forall_mem_cons.mpr ⟨tb_3 _ (List.mem_of_getElem? (i := 71) (by decide +kernel)), List.forall_mem_cons.mpr ⟨tb_3 _ (List.mem_of_getElem? (i := 72) (by decide +kernel)), List.forall_mem_cons.mpr ⟨tb_3 _ (List.mem_of_getElem? (i := 73) (by decide +kernel)), List.forall_mem_cons.mpr ⟨tb_3 _ (List.mem_of_getElem? (i := 74) (by decide +kernel)), List.forall_mem_cons.mpr ⟨tb_3 _ (List.mem_of_getElem? (i := 75) (by decide +kernel)), List.forall_mem_cons.mpr ⟨tb_3 _ (List.mem_of_getElem? (i := 76) (by decide +kernel)), List.forall_mem_cons.mpr ⟨tb_3 _ (List.mem_of_getElem? (i := 77) (by decide +kernel)), List.forall_mem_cons.mpr ⟨tb_3 _ (List.mem_of_getElem? (i := 78) (by decide +kernel)), List.forall_mem_cons.mpr ⟨tb_3 _ (List.mem_of_getElem? (i := 79) (by decide +kernel)), List.forall_mem_cons.mpr ⟨tb_3 _ (List.mem_of_getElem? (i := 80) (by decide +kernel)), List.forall_mem_cons.mpr ⟨tb_3 _ (List.mem_of_getElem? (i := 81) (by decide +kernel)), List.forall_mem_cons.mpr ⟨tb_3 _ (List.mem_of_getElem? (i := 82) (by decide +kernel)), List.forall_mem_cons.mpr ⟨tb_3 _ (List.mem_of_getElem? (i := 83) (by decide +kernel)), List.forall_mem_cons.mpr ⟨tb_3 _ (List.mem_of_getElem? (i := 87) (by decide +kernel)), List.forall_mem_cons.mpr ⟨tb_3 _ (List.mem_of_getElem? (i := 88) (by decide +kernel)), List.forall_mem_cons.mpr ⟨tb_3 _ (List.mem_of_getElem? (i := 89) (by decide +kernel)), List.forall_mem_cons.mpr ⟨tb_3 _ (List.mem_of_getElem? (i := 90) (by decide +kernel)), List.forall_mem_cons.mpr ⟨tb_3 _ (List.mem_of_getElem? (i := 91) (by decide +kernel)), fun _ h => absurd h List.not_mem_nil⟩⟩⟩⟩⟩⟩⟩⟩⟩⟩⟩⟩⟩⟩⟩⟩⟩⟩⟩⟩⟩⟩⟩⟩
set_option maxRecDepth 20000 in
theorem wr_17 : ∀ w ∈ wsL_law0_r18, w ∈ lw_tbl := List.forall_mem_cons.mpr ⟨tb_3 _ (List.mem_of_getElem? (i := 92) (by decide +kernel)), List.forall_mem_cons.mpr ⟨tb_3 _ (List.mem_of_getElem? (i := 93) (by decide +kernel)), List.forall_mem_cons.mpr ⟨tb_3 _ (List.mem_of_getElem? (i := 94) (by decide +kernel)), List.forall_mem_cons.mpr ⟨tb_3 _ (List.mem_of_getElem? (i := 95) (by decide +kernel)), List.forall_mem_cons.mpr ⟨tb_3 _ (List.mem_of_getElem? (i := 96) (by decide +kernel)), List.forall_mem_cons.mpr ⟨tb_3 _ (List.mem_of_getElem? (i := 97) (by decide +kernel)), List.forall_mem_cons.mpr ⟨tb_3 _ (List.mem_of_getElem? (i := 98) (by decide +kernel)), List.forall_mem_cons.mpr ⟨tb_3 _ (List.mem_of_getElem? (i := 99) (by decide +kernel)), fun _ h => absurd h List.not_mem_nil⟩⟩⟩⟩⟩⟩⟩⟩
set_option maxRecDepth 20000 in
theorem wu_wsX50 : ∀ w ∈ wsX50, w ∈ lw_tbl := by decide +kernel
set_option maxRecDepth 20000 in
theorem wu_wsJx4a65c0 : ∀ w ∈ wsJx4a65c0, w ∈ lw_tbl := by decide +kernel
set_option maxRecDepth 20000 in
theorem wu_wsX00 : ∀ w ∈ wsX00, w ∈ lw_tbl := by decide +kernel
set_option maxRecDepth 20000 in
theorem wu_wsX30 : ∀ w ∈ wsX30, w ∈ lw_tbl := by decide +kernel
set_option maxRecDepth 20000 in
theorem wu_wsX10 : ∀ w ∈ wsX10, w ∈ lw_tbl := by decide +kernel
set_option maxRecDepth 20000 in
theorem wu_wsX40 : ∀ w ∈ wsX40, w ∈ lw_tbl := by decide +kernel
set_option maxRecDepth 20000 in
theorem wu_wsX20 : ∀ w ∈ wsX20, w ∈ lw_tbl := by decide +kernel
theorem wsL_law_in0 : ∀ w ∈ wsL_law0, w ∈ lw_tbl := fun w h => (List.mem_append.mp h).elim (fun h => (List.mem_append.mp h).elim (fun h => (List.mem_append.mp h).elim (fun h => (List.mem_append.mp h).elim (fun h => (List.mem_append.mp h).elim (fun h => (List.mem_append.mp h).elim (fun h => (List.mem_append.mp h).elim (fun h => (List.mem_append.mp h).elim (fun h => (List.mem_append.mp h).elim (fun h => wr_0 w h) (fun h => (List.mem_append.mp h).elim (fun h => wr_1 w h) (fun h => (List.mem_append.mp h).elim (fun h => wr_2 w h) (fun h => (List.mem_append.mp h).elim (fun h => wr_3 w h) (fun h => (List.mem_append.mp h).elim (fun h => wr_4 w h) (fun h => (List.mem_append.mp h).elim (fun h => wr_5 w h) (fun h => (List.mem_append.mp h).elim (fun h => wr_6 w h) (fun h => (List.mem_append.mp h).elim (fun h => wr_7 w h) (fun h => (List.mem_append.mp h).elim (fun h => wr_8 w h) (fun h => (List.mem_append.mp h).elim (fun h => wr_9 w h) (fun h => (List.mem_append.mp h).elim (fun h => wr_10 w h) (fun h => (List.mem_append.mp h).elim (fun h => wr_11 w h) (fun h => (List.mem_append.mp h).elim (fun h => wr_12 w h) (fun h => (List.mem_append.mp h).elim (fun h => wr_13 w h) (fun h => (List.mem_append.mp h).elim (fun h => wr_14 w h) (fun h => (List.mem_append.mp h).elim (fun h => wr_15 w h) (fun h => (List.mem_append.mp h).elim (fun h => wr_16 w h) (fun h => wr_17 w h)))))))))))))))))) (fun h => wu_wsX50 w h)) (fun h => wu_wsJx4a65c0 w h)) (fun h => wu_wsX00 w h)) (fun h => wu_wsX30 w h)) (fun h => wu_wsX10 w h)) (fun h => wu_wsX40 w h)) (fun h => wu_wsX20 w h)) (fun h => absurd h List.not_mem_nil)
theorem wsL_law_x0 : ∀ w ∈ (vx_atS RX5 54 "java/lang/IndexOutOfBoundsException" ["java/lang/RuntimeException", "java/lang/Exception"]).filter goodWord, w ∈ lw_tbl := by decide +kernel
theorem wsL_law_x1 : ∀ w ∈ (vx_atS RX5 61 "java/lang/IllegalArgumentException" ["java/lang/RuntimeException", "java/lang/Exception"]).filter goodWord, w ∈ lw_tbl := by decide +kernel
theorem wsL_law_x2 : ∀ w ∈ (vx_atS RX5 70 "java/lang/IllegalStateException" ["java/lang/RuntimeException", "java/lang/Exception"]).filter goodWord, w ∈ lw_tbl := by decide +kernel
theorem wsL_law_in : ∀ w ∈ wsL_law, w ∈ lw_tbl := fun w h => (List.mem_append.mp h).elim (fun h => (List.mem_append.mp h).elim (fun h => (List.mem_append.mp h).elim (fun h => wsL_law_in0 w h) (fun h => wsL_law_x0 w h)) (fun h => wsL_law_x1 w h)) (fun h => wsL_law_x2 w h)
theorem inlX0 : ∀ w ∈ wsX00, w ∈ wsL_law := fun _ h => List.mem_append_left _ (List.mem_append_left _ (List.mem_append_left _ (List.mem_append_left _ (List.mem_append_left _ (List.mem_append_left _ (List.mem_append_left _ (List.mem_append_left _ (List.mem_append_right _ h))))))))
theorem inlX1 : ∀ w ∈ wsX10, w ∈ wsL_law := fun _ h => List.mem_append_left _ (List.mem_append_left _ (List.mem_append_left _ (List.mem_append_left _ (List.mem_append_left _ (List.mem_append_left _ (List.mem_append_right _ h))))))
theorem inlX2 : ∀ w ∈ wsX20, w ∈ wsL_law := fun _ h => List.mem_append_left _ (List.mem_append_left _ (List.mem_append_left _ (List.mem_append_left _ (List.mem_append_right _ h))))
theorem inlX3 : ∀ w ∈ wsX30, w ∈ wsL_law := fun _ h => List.mem_append_left _ (List.mem_append_left _ (List.mem_append_left _ (List.mem_append_left _ (List.mem_append_left _ (List.mem_append_left _ (List.mem_append_left _ (List.mem_append_right _ h)))))))
theorem inlX4 : ∀ w ∈ wsX40, w ∈ wsL_law := fun _ h => List.mem_append_left _ (List.mem_append_left _ (List.mem_append_left _ (List.mem_append_left _ (List.mem_append_left _ (List.mem_append_right _ h)))))
theorem inlX5 : ∀ w ∈ wsX50, w ∈ wsL_law := fun _ h => List.mem_append_left _ (List.mem_append_left _ (List.mem_append_left _ (List.mem_append_left _ (List.mem_append_left _ (List.mem_append_left _ (List.mem_append_left _ (List.mem_append_left _ (List.mem_append_left _ (List.mem_append_left _ (List.mem_append_right _ h))))))))))
theorem inlJx4a65c : ∀ w ∈ wsJx4a65c0, w ∈ wsL_law := fun _ h => List.mem_append_left _ (List.mem_append_left _ (List.mem_append_left _ (List.mem_append_left _ (List.mem_append_left _ (List.mem_append_left _ (List.mem_append_left _ (List.mem_append_left _ (List.mem_append_left _ (List.mem_append_right _ h)))))))))
theorem ql_0 : ∀ w ∈ wsL_law0_r1, w ∈ wsL_law := fun _ h => List.mem_append_left _ (List.mem_append_left _ (List.mem_append_left _ (List.mem_append_left _ (List.mem_append_left _ (List.mem_append_left _ (List.mem_append_left _ (List.mem_append_left _ (List.mem_append_left _ (List.mem_append_left _ (List.mem_append_left _ (List.mem_append_left _ h)))))))))))
theorem ql_1 : ∀ w ∈ wsL_law0_r2, w ∈ wsL_law := fun _ h => List.mem_append_left _ (List.mem_append_left _ (List.mem_append_left _ (List.mem_append_left _ (List.mem_append_left _ (List.mem_append_left _ (List.mem_append_left _ (List.mem_append_left _ (List.mem_append_left _ (List.mem_append_left _ (List.mem_append_left _ (List.mem_append_right _ (List.mem_append_left _ h))))))))))))
theorem ql_2 : ∀ w ∈ wsL_law0_r3, w ∈ wsL_law := fun _ h => List.mem_append_left _ (List.mem_append_left _ (List.mem_append_left _ (List.mem_append_left _ (List.mem_append_left _ (List.mem_append_left _ (List.mem_append_left _ (List.mem_append_left _ (List.mem_append_left _ (List.mem_append_left _ (List.mem_append_left _ (List.mem_append_right _ (List.mem_append_right _ (List.mem_append_left _ h)))))))))))))
theorem ql_3 : ∀ w ∈ wsL_law0_r4, w ∈ wsL_law := fun _ h => List.mem_append_left _ (List.mem_append_left _ (List.mem_append_left _ (List.mem_append_left _ (List.mem_append_left _ (List.mem_append_left _ (List.mem_append_left _ (List.mem_append_left _ (List.mem_append_left _ (List.mem_append_left _ (List.mem_append_left _ (List.mem_append_right _ (List.mem_append_right _ (List.mem_append_right _ (List.mem_append_left _ h))))))))))))))
theorem ql_4 : ∀ w ∈ wsL_law0_r5, w ∈ wsL_law := fun _ h => List.mem_append_left _ (List.mem_append_left _ (List.mem_append_left _ (List.mem_append_left _ (List.mem_append_left _ (List.mem_append_left _ (List.mem_append_left _ (List.mem_append_left _ (List.mem_append_left _ (List.mem_append_left _ (List.mem_append_left _ (List.mem_append_right _ (List.mem_append_right _ (List.mem_append_right _ (List.mem_append_right _ (List.mem_append_left _ h)))))))))))))))
theorem ql_5 : ∀ w ∈ wsL_law0_r6, w ∈ wsL_law := fun _ h => List.mem_append_left _ (List.mem_append_left _ (List.mem_append_left _ (List.mem_append_left _ (List.mem_append_left _ (List.mem_append_left _ (List.mem_append_left _ (List.mem_append_left _ (List.mem_append_left _ (List.mem_append_left _ (List.mem_append_left _ (List.mem_append_right _ (List.mem_append_right _ (List.mem_append_right _ (List.mem_append_right _ (List.mem_append_right _ (List.mem_append_left _ h))))))))))))))))
theorem ql_6 : ∀ w ∈ wsL_law0_r7, w ∈ wsL_law := fun _ h => List.mem_append_left _ (List.mem_append_left _ (List.mem_append_left _ (List.mem_append_left _ (List.mem_append_left _ (List.mem_append_left _ (List.mem_append_left _ (List.mem_append_left _ (List.mem_append_left _ (List.mem_append_left _ (List.mem_append_left _ (List.mem_append_right _ (List.mem_append_right _ (List.mem_append_right _ (List.mem_append_right _ (List.mem_append_right _ (List.mem_append_right _ (List.mem_append_left _ h)))))))))))))))))
theorem ql_7 : ∀ w ∈ wsL_law0_r8, w ∈ wsL_law := fun _ h => List.mem_append_left _ (List.mem_append_left _ (List.mem_append_left _ (List.mem_append_left _ (List.mem_append_left _ (List.mem_append_left _ (List.mem_append_left _ (List.mem_append_left _ (List.mem_append_left _ (List.mem_append_left _ (List.mem_append_left _ (List.mem_append_right _ (List.mem_append_right _ (List.mem_append_right _ (List.mem_append_right _ (List.mem_append_right _ (List.mem_append_right _ (List.mem_append_right _ (List.mem_append_left _ h))))))))))))))))))
theorem ql_8 : ∀ w ∈ wsL_law0_r9, w ∈ wsL_law := fun _ h => List.mem_append_left _ (List.mem_append_left _ (List.mem_append_left _ (List.mem_append_left _ (List.mem_append_left _ (List.mem_append_left _ (List.mem_append_left _ (List.mem_append_left _ (List.mem_append_left _ (List.mem_append_left _ (List.mem_append_left _ (List.mem_append_right _ (List.mem_append_right _ (List.mem_append_right _ (List.mem_append_right _ (List.mem_append_right _ (List.mem_append_right _ (List.mem_append_right _ (List.mem_append_right _ (List.mem_append_left _ h)))))))))))))))))))
theorem ql_9 : ∀ w ∈ wsL_law0_r10, w ∈ wsL_law := fun _ h => List.mem_append_left _ (List.mem_append_left _ (List.mem_append_left _ (List.mem_append_left _ (List.mem_append_left _ (List.mem_append_left _ (List.mem_append_left _ (List.mem_append_left _ (List.mem_append_left _ (List.mem_append_left _ (List.mem_append_left _ (List.mem_append_right _ (List.mem_append_right _ (List.mem_append_right _ (List.mem_append_right _ (List.mem_append_right _ (List.mem_append_right _ (List.mem_append_right _ (List.mem_append_right _ (List.mem_append_right _ (List.mem_append_left _ h))))))))))))))))))))
theorem ql_10 : ∀ w ∈ wsL_law0_r11, w ∈ wsL_law := fun _ h => List.mem_append_left _ (List.mem_append_left _ (List.mem_append_left _ (List.mem_append_left _ (List.mem_append_left _ (List.mem_append_left _ (List.mem_append_left _ (List.mem_append_left _ (List.mem_append_left _ (List.mem_append_left _ (List.mem_append_left _ (List.mem_append_right _ (List.mem_append_right _ (List.mem_append_right _ (List.mem_append_right _ (List.mem_append_right _ (List.mem_append_right _ (List.mem_append_right _ (List.mem_append_right _ (List.mem_append_right _ (List.mem_append_right _ (List.mem_append_left _ h)))))))))))))))))))))
theorem ql_11 : ∀ w ∈ wsL_law0_r12, w ∈ wsL_law := fun _ h => List.mem_append_left _ (List.mem_append_left _ (List.mem_append_left _ (List.mem_append_left _ (List.mem_append_left _ (List.mem_append_left _ (List.mem_append_left _ (List.mem_append_left _ (List.mem_append_left _ (List.mem_append_left _ (List.mem_append_left _ (List.mem_append_right _ (List.mem_append_right _ (List.mem_append_right _ (List.mem_append_right _ (List.mem_append_right _ (List.mem_append_right _ (List.mem_append_right _ (List.mem_append_right _ (List.mem_append_right _ (List.mem_append_right _ (List.mem_append_right _ (List.mem_append_left _ h))))))))))))))))))))))
theorem ql_12 : ∀ w ∈ wsL_law0_r13, w ∈ wsL_law := fun _ h => List.mem_append_left _ (List.mem_append_left _ (List.mem_append_left _ (List.mem_append_left _ (List.mem_append_left _ (List.mem_append_left _ (List.mem_append_left _ (List.mem_append_left _ (List.mem_append_left _ (List.mem_append_left _ (List.mem_append_left _ (List.mem_append_right _ (List.mem_append_right _ (List.mem_append_right _ (List.mem_append_right _ (List.mem_append_right _ (List.mem_append_right _ (List.mem_append_right _ (List.mem_append_right _ (List.mem_append_right _ (List.mem_append_right _ (List.mem_append_right _ (List.mem_append_right _ (List.mem_append_left _ h)))))))))))))))))))))))
theorem ql_13 : ∀ w ∈ wsL_law0_r14, w ∈ wsL_law := fun _ h => List.mem_append_left _ (List.mem_append_left _ (List.mem_append_left _ (List.mem_append_left _ (List.mem_append_left _ (List.mem_append_left _ (List.mem_append_left _ (List.mem_append_left _ (List.mem_append_left _ (List.mem_append_left _ (List.mem_append_left _ (List.mem_append_right _ (List.mem_append_right _ (List.mem_append_right _ (List.mem_append_right _ (List.mem_append_right _ (List.mem_append_right _ (List.mem_append_right _ (List.mem_append_right _ (List.mem_append_right _ (List.mem_append_right _ (List.mem_append_right _ (List.mem_append_right _ (List.mem_append_right _ (List.mem_append_left _ h))))))))))))))))))))))))
theorem ql_14 : ∀ w ∈ wsL_law0_r15, w ∈ wsL_law := fun _ h => List.mem_append_left _ (List.mem_append_left _ (List.mem_append_left _ (List.mem_append_left _ (List.mem_append_left _ (List.mem_append_left _ (List.mem_append_left _ (List.mem_append_left _ (List.mem_append_left _ (List.mem_append_left _ (List.mem_append_left _ (List.mem_append_right _ (List.mem_append_right _ (List.mem_append_right _ (List.mem_append_right _ (List.mem_append_right _ (List.mem_append_right _ (List.mem_append_right _ (List.mem_append_right _ (List.mem_append_right _ (List.mem_append_right _ (List.mem_append_right _ (List.mem_append_right _ (List.mem_append_right _ (List.mem_append_right _ (List.mem_append_left _ h)))))))))))))))))))))))))
theorem ql_15 : ∀ w ∈ wsL_law0_r16, w ∈ wsL_law := fun _ h => List.mem_append_left _ (List.mem_append_left _ (List.mem_append_left _ (List.mem_append_left _ (List.mem_append_left _ (List.mem_append_left _ (List.mem_append_left _ (List.mem_append_left _ (List.mem_append_left _ (List.mem_append_left _ (List.mem_append_left _ (List.mem_append_right _ (List.mem_append_right _ (List.mem_append_right _ (List.mem_append_right _ (List.mem_append_right _ (List.mem_append_right _ (List.mem_append_right _ (List.mem_append_right _ (List.mem_append_right _ (List.mem_append_right _ (List.mem_append_right _ (List.mem_append_right _ (List.mem_append_right _ (List.mem_append_right _ (List.mem_append_right _ (List.mem_append_left _ h))))))))))))))))))))))))))
theorem ql_16 : ∀ w ∈ wsL_law0_r17, w ∈ wsL_law := fun _ h => List.mem_append_left _ (List.mem_append_left _ (List.mem_append_left _ (List.mem_append_left _ (List.mem_append_left _ (List.mem_append_left _ (List.mem_append_left _ (List.mem_append_left _ (List.mem_append_left _ (List.mem_append_left _ (List.mem_append_left _ (List.mem_append_right _ (List.mem_append_right _ (List.mem_append_right _ (List.mem_append_right _ (List.mem_append_right _ (List.mem_append_right _ (List.mem_append_right _ (List.mem_append_right _ (List.mem_append_right _ (List.mem_append_right _ (List.mem_append_right _ (List.mem_append_right _ (List.mem_append_right _ (List.mem_append_right _ (List.mem_append_right _ (List.mem_append_right _ (List.mem_append_left _ h)))))))))))))))))))))))))))
theorem ql_17 : ∀ w ∈ wsL_law0_r18, w ∈ wsL_law := fun _ h => List.mem_append_left _ (List.mem_append_left _ (List.mem_append_left _ (List.mem_append_left _ (List.mem_append_left _ (List.mem_append_left _ (List.mem_append_left _ (List.mem_append_left _ (List.mem_append_left _ (List.mem_append_left _ (List.mem_append_left _ (List.mem_append_right _ (List.mem_append_right _ (List.mem_append_right _ (List.mem_append_right _ (List.mem_append_right _ (List.mem_append_right _ (List.mem_append_right _ (List.mem_append_right _ (List.mem_append_right _ (List.mem_append_right _ (List.mem_append_right _ (List.mem_append_right _ (List.mem_append_right _ (List.mem_append_right _ (List.mem_append_right _ (List.mem_append_right _ (List.mem_append_right _ (h))))))))))))))))))))))))))))
theorem q_0 : Cond.classLink RL 11 RX5 ∈ wsL_law := ql_0 _ (List.mem_of_getElem? (i := 0) rfl)
theorem q_1 : Cond.instantiable RX5 6 ∈ wsL_law := ql_0 _ (List.mem_of_getElem? (i := 1) rfl)
theorem q_2 : Cond.initialized RX5 ∈ wsL_law := ql_0 _ (List.mem_of_getElem? (i := 2) rfl)
theorem q_3 : Cond.arrayClass .int ∈ wsL_law := ql_0 _ (List.mem_of_getElem? (i := 3) rfl)
theorem q_4 : Cond.methodLink RL 106 yX5_init ∈ wsL_law := ql_0 _ (List.mem_of_getElem? (i := 4) rfl)
theorem q_5 : Cond.instanceMethod yX5_init ∈ wsL_law := ql_0 _ (List.mem_of_getElem? (i := 5) rfl)
theorem q_6 : Cond.code yX5_init cX5_init 2 none ∈ wsL_law := ql_0 _ (List.mem_of_getElem? (i := 6) rfl)
theorem q_7 : Cond.methodLink RX5 1 objectInit ∈ wsL_law := ql_0 _ (List.mem_of_getElem? (i := 7) rfl)
theorem q_8 : Cond.instanceMethod objectInit ∈ wsL_law := ql_0 _ (List.mem_of_getElem? (i := 8) rfl)
theorem q_9 : Cond.code objectInit ⟨#[0xb1]⟩ 1 none ∈ wsL_law := ql_0 _ (List.mem_of_getElem? (i := 9) rfl)
theorem q_10 : Cond.classLink RX5 9 RX3 ∈ wsL_law := ql_0 _ (List.mem_of_getElem? (i := 10) rfl)
theorem q_11 : Cond.fieldLink RX5 11 "LanternDesk" "streets" "[LLanternDesk$Street;" ∈ wsL_law := ql_0 _ (List.mem_of_getElem? (i := 11) rfl)
theorem q_12 : Cond.classLink RX5 15 RX1 ∈ wsL_law := ql_0 _ (List.mem_of_getElem? (i := 12) rfl)
theorem q_13 : Cond.fieldLink RX5 17 "LanternDesk" "escorts" "[LLanternDesk$Escort;" ∈ wsL_law := ql_0 _ (List.mem_of_getElem? (i := 13) rfl)
theorem q_14 : Cond.classLink RX5 21 RJx4a65c ∈ wsL_law := ql_0 _ (List.mem_of_getElem? (i := 14) rfl)
theorem q_15 : Cond.instantiable RJx4a65c 3 ∈ wsL_law := ql_0 _ (List.mem_of_getElem? (i := 15) rfl)
theorem q_16 : Cond.initialized RJx4a65c ∈ wsL_law := ql_0 _ (List.mem_of_getElem? (i := 16) rfl)
theorem q_17 : Cond.fieldLink RX5 24 "LanternDesk" "walks" "Ljava/util/ArrayList;" ∈ wsL_law := ql_0 _ (List.mem_of_getElem? (i := 17) rfl)
theorem q_18 : Cond.classLink RX5 28 RX0 ∈ wsL_law := ql_0 _ (List.mem_of_getElem? (i := 18) rfl)
theorem q_19 : Cond.instantiable RX0 2 ∈ wsL_law := ql_0 _ (List.mem_of_getElem? (i := 19) rfl)
theorem q_20 : Cond.initialized RX0 ∈ wsL_law := ql_0 _ (List.mem_of_getElem? (i := 20) rfl)
theorem q_21 : Cond.fieldLink RX5 31 "LanternDesk" "album" "LLanternDesk$Album;" ∈ wsL_law := ql_0 _ (List.mem_of_getElem? (i := 21) rfl)
theorem q_22 : Cond.fieldLink RX5 35 "LanternDesk" "day" "I" ∈ wsL_law := ql_0 _ (List.mem_of_getElem? (i := 22) rfl)
theorem q_23 : Cond.fieldLink RX5 39 "LanternDesk" "minute" "I" ∈ wsL_law := ql_0 _ (List.mem_of_getElem? (i := 23) rfl)
theorem q_24 : Cond.instantiable RX3 4 ∈ wsL_law := ql_1 _ (List.mem_of_getElem? (i := 0) rfl)
theorem q_25 : Cond.initialized RX3 ∈ wsL_law := ql_1 _ (List.mem_of_getElem? (i := 1) rfl)
theorem q_26 : Cond.instantiable RX1 4 ∈ wsL_law := ql_1 _ (List.mem_of_getElem? (i := 2) rfl)
theorem q_27 : Cond.initialized RX1 ∈ wsL_law := ql_1 _ (List.mem_of_getElem? (i := 3) rfl)
theorem q_28 : Cond.methodLink RX5 23 yJx4a65c_init_da8c8 ∈ wsL_law := ql_1 _ (List.mem_of_getElem? (i := 4) rfl)
theorem q_29 : Cond.instanceMethod yJx4a65c_init_da8c8 ∈ wsL_law := ql_1 _ (List.mem_of_getElem? (i := 5) rfl)
theorem q_30 : Cond.code yJx4a65c_init_da8c8 cJx4a65c_init_da8c8 1 none ∈ wsL_law := ql_1 _ (List.mem_of_getElem? (i := 6) rfl)
theorem q_31 : Cond.fieldLink RJx4a65c 39 "java/util/ArrayList" "DEFAULTCAPACITY_EMPTY_ELEMENTDATA" "[Ljava/lang/Object;" ∈ wsL_law := ql_1 _ (List.mem_of_getElem? (i := 7) rfl)
theorem q_32 : Cond.fieldLink RJx4a65c 9 "java/util/ArrayList" "elementData" "[Ljava/lang/Object;" ∈ wsL_law := ql_1 _ (List.mem_of_getElem? (i := 8) rfl)
theorem q_33 : Cond.methodLink RJx4a65c 1 yJxc12de_init_da8c8 ∈ wsL_law := ql_1 _ (List.mem_of_getElem? (i := 9) rfl)
theorem q_34 : Cond.instanceMethod yJxc12de_init_da8c8 ∈ wsL_law := ql_1 _ (List.mem_of_getElem? (i := 10) rfl)
theorem q_35 : Cond.initialized RJxc12de ∈ wsL_law := ql_1 _ (List.mem_of_getElem? (i := 11) rfl)
theorem q_36 : Cond.code yJxc12de_init_da8c8 cJxc12de_init_da8c8 1 none ∈ wsL_law := ql_1 _ (List.mem_of_getElem? (i := 12) rfl)
theorem q_37 : Cond.fieldLink RJxc12de 7 "java/util/AbstractList" "modCount" "I" ∈ wsL_law := ql_1 _ (List.mem_of_getElem? (i := 13) rfl)
theorem q_38 : Cond.methodLink RJxc12de 1 yJxa1e45_init_da8c8 ∈ wsL_law := ql_1 _ (List.mem_of_getElem? (i := 14) rfl)
theorem q_39 : Cond.instanceMethod yJxa1e45_init_da8c8 ∈ wsL_law := ql_1 _ (List.mem_of_getElem? (i := 15) rfl)
theorem q_40 : Cond.initialized RJxa1e45 ∈ wsL_law := ql_1 _ (List.mem_of_getElem? (i := 16) rfl)
theorem q_41 : Cond.code yJxa1e45_init_da8c8 cJxa1e45_init_da8c8 1 none ∈ wsL_law := ql_1 _ (List.mem_of_getElem? (i := 17) rfl)
theorem q_42 : Cond.methodLink RJxa1e45 1 objectInit ∈ wsL_law := ql_1 _ (List.mem_of_getElem? (i := 18) rfl)
theorem q_43 : Cond.instanceMethod yX0_init ∈ wsL_law := ql_1 _ (List.mem_of_getElem? (i := 19) rfl)
theorem q_44 : Cond.code yX0_init cX0_init 1 none ∈ wsL_law := ql_1 _ (List.mem_of_getElem? (i := 20) rfl)
theorem q_45 : Cond.methodLink RX0 3 objectInit ∈ wsL_law := ql_1 _ (List.mem_of_getElem? (i := 21) rfl)
theorem q_46 : Cond.classLink RX0 9 RJx4a65c ∈ wsL_law := ql_1 _ (List.mem_of_getElem? (i := 22) rfl)
theorem q_47 : Cond.fieldLink RX0 12 "LanternDesk$Album" "papers" "Ljava/util/ArrayList;" ∈ wsL_law := ql_1 _ (List.mem_of_getElem? (i := 23) rfl)
theorem q_48 : Cond.fieldLink RX0 18 "LanternDesk$Album" "kept" "Ljava/util/ArrayList;" ∈ wsL_law := ql_2 _ (List.mem_of_getElem? (i := 0) rfl)
theorem q_49 : Cond.methodLink RX0 11 yJx4a65c_init_da8c8 ∈ wsL_law := ql_2 _ (List.mem_of_getElem? (i := 1) rfl)
theorem q_50 : Cond.methodLink RX5 42 yX3_init ∈ wsL_law := ql_2 _ (List.mem_of_getElem? (i := 2) rfl)
theorem q_51 : Cond.instanceMethod yX3_init ∈ wsL_law := ql_2 _ (List.mem_of_getElem? (i := 3) rfl)
theorem q_52 : Cond.code yX3_init cX3_init 2 none ∈ wsL_law := ql_2 _ (List.mem_of_getElem? (i := 4) rfl)
theorem q_53 : Cond.methodLink RX3 3 objectInit ∈ wsL_law := ql_2 _ (List.mem_of_getElem? (i := 5) rfl)
theorem q_54 : Cond.fieldLink RX3 9 "LanternDesk$Street" "purse" "I" ∈ wsL_law := ql_2 _ (List.mem_of_getElem? (i := 6) rfl)
theorem q_55 : Cond.fieldLink RX3 15 "LanternDesk$Street" "price" "I" ∈ wsL_law := ql_2 _ (List.mem_of_getElem? (i := 7) rfl)
theorem q_56 : Cond.fieldLink RX3 18 "LanternDesk$Street" "hasCamera" "Z" ∈ wsL_law := ql_2 _ (List.mem_of_getElem? (i := 8) rfl)
theorem q_57 : Cond.fieldLink RX3 22 "LanternDesk$Street" "votes" "[I" ∈ wsL_law := ql_2 _ (List.mem_of_getElem? (i := 9) rfl)
theorem q_58 : Cond.methodLink RX5 43 yX1_init ∈ wsL_law := ql_2 _ (List.mem_of_getElem? (i := 10) rfl)
theorem q_59 : Cond.instanceMethod yX1_init ∈ wsL_law := ql_2 _ (List.mem_of_getElem? (i := 11) rfl)
theorem q_60 : Cond.code yX1_init cX1_init 2 none ∈ wsL_law := ql_2 _ (List.mem_of_getElem? (i := 12) rfl)
theorem q_61 : Cond.methodLink RX1 3 objectInit ∈ wsL_law := ql_2 _ (List.mem_of_getElem? (i := 13) rfl)
theorem q_62 : Cond.fieldLink RX1 9 "LanternDesk$Escort" "street" "I" ∈ wsL_law := ql_2 _ (List.mem_of_getElem? (i := 14) rfl)
theorem q_63 : Cond.fieldLink RX1 15 "LanternDesk$Escort" "rank" "I" ∈ wsL_law := ql_2 _ (List.mem_of_getElem? (i := 15) rfl)
theorem q_64 : Cond.fieldLink RX1 18 "LanternDesk$Escort" "isFree" "Z" ∈ wsL_law := ql_2 _ (List.mem_of_getElem? (i := 16) rfl)
theorem q_65 : Cond.fieldLink RX1 22 "LanternDesk$Escort" "number" "I" ∈ wsL_law := ql_2 _ (List.mem_of_getElem? (i := 17) rfl)
theorem q_66 : Cond.methodLink RL 107 yL_cell ∈ wsL_law := ql_2 _ (List.mem_of_getElem? (i := 18) rfl)
theorem q_67 : Cond.static yL_cell ∈ wsL_law := ql_2 _ (List.mem_of_getElem? (i := 19) rfl)
theorem q_68 : Cond.initialized RL ∈ wsL_law := ql_2 _ (List.mem_of_getElem? (i := 20) rfl)
theorem q_69 : Cond.code yL_cell cL_cell 2 (some .int) ∈ wsL_law := ql_2 _ (List.mem_of_getElem? (i := 21) rfl)
theorem q_70 : Cond.constant RL 7 (51637) ∈ wsL_law := ql_2 _ (List.mem_of_getElem? (i := 22) rfl)
theorem q_71 : Cond.constant RL 8 (2051463) ∈ wsL_law := ql_2 _ (List.mem_of_getElem? (i := 23) rfl)
theorem q_72 : Cond.methodLink RL 58 yL_low ∈ wsL_law := ql_3 _ (List.mem_of_getElem? (i := 0) rfl)
theorem q_73 : Cond.static yL_low ∈ wsL_law := ql_3 _ (List.mem_of_getElem? (i := 1) rfl)
theorem q_74 : Cond.code yL_low cL_low 2 (some .int) ∈ wsL_law := ql_3 _ (List.mem_of_getElem? (i := 2) rfl)
theorem q_75 : Cond.constant RL 9 (2147483647) ∈ wsL_law := ql_3 _ (List.mem_of_getElem? (i := 3) rfl)
theorem q_76 : Cond.methodLink RL 111 yX5_ask ∈ wsL_law := ql_3 _ (List.mem_of_getElem? (i := 4) rfl)
theorem q_77 : Cond.instanceMethod yX5_ask ∈ wsL_law := ql_3 _ (List.mem_of_getElem? (i := 5) rfl)
theorem q_78 : Cond.selects RX5 yX5_ask yX5_ask ∈ wsL_law := ql_3 _ (List.mem_of_getElem? (i := 6) rfl)
theorem q_79 : Cond.code yX5_ask cX5_ask 4 (some .int) ∈ wsL_law := ql_3 _ (List.mem_of_getElem? (i := 7) rfl)
theorem q_80 : Cond.classLink RX5 50 "java/lang/IndexOutOfBoundsException" ∈ wsL_law := ql_3 _ (List.mem_of_getElem? (i := 8) rfl)
theorem q_81 : Cond.initialized "java/lang/IndexOutOfBoundsException" ∈ wsL_law := ql_3 _ (List.mem_of_getElem? (i := 9) rfl)
theorem q_82 : Cond.classLink RX5 57 "java/lang/IllegalArgumentException" ∈ wsL_law := ql_3 _ (List.mem_of_getElem? (i := 10) rfl)
theorem q_83 : Cond.initialized "java/lang/IllegalArgumentException" ∈ wsL_law := ql_3 _ (List.mem_of_getElem? (i := 11) rfl)
theorem q_84 : Cond.classLink RX5 66 "java/lang/IllegalStateException" ∈ wsL_law := ql_3 _ (List.mem_of_getElem? (i := 12) rfl)
theorem q_85 : Cond.initialized "java/lang/IllegalStateException" ∈ wsL_law := ql_3 _ (List.mem_of_getElem? (i := 13) rfl)
theorem q_86 : Cond.classLink RX5 117 RX4 ∈ wsL_law := ql_3 _ (List.mem_of_getElem? (i := 14) rfl)
theorem q_87 : Cond.instantiable RX4 7 ∈ wsL_law := ql_3 _ (List.mem_of_getElem? (i := 15) rfl)
theorem q_88 : Cond.initialized RX4 ∈ wsL_law := ql_3 _ (List.mem_of_getElem? (i := 16) rfl)
theorem q_89 : Cond.methodLink RX5 98 yX5_isStreet ∈ wsL_law := ql_3 _ (List.mem_of_getElem? (i := 17) rfl)
theorem q_90 : Cond.static yX5_isStreet ∈ wsL_law := ql_3 _ (List.mem_of_getElem? (i := 18) rfl)
theorem q_91 : Cond.code yX5_isStreet cX5_isStreet 1 (some .boolean) ∈ wsL_law := ql_3 _ (List.mem_of_getElem? (i := 19) rfl)
theorem q_92 : Cond.methodLink RX5 112 yJx4a65c_size_8abf5 ∈ wsL_law := ql_3 _ (List.mem_of_getElem? (i := 20) rfl)
theorem q_93 : Cond.instanceMethod yJx4a65c_size_8abf5 ∈ wsL_law := ql_3 _ (List.mem_of_getElem? (i := 21) rfl)
theorem q_94 : Cond.selects RJx4a65c yJx4a65c_size_8abf5 yJx4a65c_size_8abf5 ∈ wsL_law := ql_3 _ (List.mem_of_getElem? (i := 22) rfl)
theorem q_95 : Cond.code yJx4a65c_size_8abf5 cJx4a65c_size_8abf5 1 (some .int) ∈ wsL_law := ql_3 _ (List.mem_of_getElem? (i := 23) rfl)
theorem q_96 : Cond.fieldLink RJx4a65c 48 "java/util/ArrayList" "size" "I" ∈ wsL_law := ql_4 _ (List.mem_of_getElem? (i := 0) rfl)
theorem q_97 : Cond.methodLink RX5 119 yX4_init ∈ wsL_law := ql_4 _ (List.mem_of_getElem? (i := 1) rfl)
theorem q_98 : Cond.instanceMethod yX4_init ∈ wsL_law := ql_4 _ (List.mem_of_getElem? (i := 2) rfl)
theorem q_99 : Cond.code yX4_init cX4_init 4 none ∈ wsL_law := ql_4 _ (List.mem_of_getElem? (i := 3) rfl)
theorem q_100 : Cond.methodLink RX4 3 objectInit ∈ wsL_law := ql_4 _ (List.mem_of_getElem? (i := 4) rfl)
theorem q_101 : Cond.fieldLink RX4 9 "LanternDesk$Walk" "state" "I" ∈ wsL_law := ql_4 _ (List.mem_of_getElem? (i := 5) rfl)
theorem q_102 : Cond.fieldLink RX4 15 "LanternDesk$Walk" "escort" "LLanternDesk$Escort;" ∈ wsL_law := ql_4 _ (List.mem_of_getElem? (i := 6) rfl)
theorem q_103 : Cond.fieldLink RX4 19 "LanternDesk$Walk" "minutesInDark" "I" ∈ wsL_law := ql_4 _ (List.mem_of_getElem? (i := 7) rfl)
theorem q_104 : Cond.fieldLink RX4 22 "LanternDesk$Walk" "isJudged" "Z" ∈ wsL_law := ql_4 _ (List.mem_of_getElem? (i := 8) rfl)
theorem q_105 : Cond.fieldLink RX4 26 "LanternDesk$Walk" "number" "I" ∈ wsL_law := ql_4 _ (List.mem_of_getElem? (i := 9) rfl)
theorem q_106 : Cond.fieldLink RX4 29 "LanternDesk$Walk" "from" "I" ∈ wsL_law := ql_4 _ (List.mem_of_getElem? (i := 10) rfl)
theorem q_107 : Cond.fieldLink RX4 32 "LanternDesk$Walk" "to" "I" ∈ wsL_law := ql_4 _ (List.mem_of_getElem? (i := 11) rfl)
theorem q_108 : Cond.methodLink RX5 122 yJx4a65c_add_9ea2d ∈ wsL_law := ql_4 _ (List.mem_of_getElem? (i := 12) rfl)
theorem q_109 : Cond.instanceMethod yJx4a65c_add_9ea2d ∈ wsL_law := ql_4 _ (List.mem_of_getElem? (i := 13) rfl)
theorem q_110 : Cond.selects RJx4a65c yJx4a65c_add_9ea2d yJx4a65c_add_9ea2d ∈ wsL_law := ql_4 _ (List.mem_of_getElem? (i := 14) rfl)
theorem q_111 : Cond.code yJx4a65c_add_9ea2d cJx4a65c_add_9ea2d 2 (some .boolean) ∈ wsL_law := ql_4 _ (List.mem_of_getElem? (i := 15) rfl)
theorem q_112 : Cond.fieldLink RJx4a65c 63 "java/util/ArrayList" "modCount" "I" ∈ wsL_law := ql_4 _ (List.mem_of_getElem? (i := 16) rfl)
theorem q_113 : Cond.sameField "java/util/ArrayList" "java/util/AbstractList" "modCount" "I" ∈ wsL_law := ql_4 _ (List.mem_of_getElem? (i := 17) rfl)
theorem q_114 : Cond.methodLink RJx4a65c 131 yJx4a65c_add_72be8 ∈ wsL_law := ql_4 _ (List.mem_of_getElem? (i := 18) rfl)
theorem q_115 : Cond.instanceMethod yJx4a65c_add_72be8 ∈ wsL_law := ql_4 _ (List.mem_of_getElem? (i := 19) rfl)
theorem q_116 : Cond.selects RJx4a65c yJx4a65c_add_72be8 yJx4a65c_add_72be8 ∈ wsL_law := ql_4 _ (List.mem_of_getElem? (i := 20) rfl)
theorem q_117 : Cond.code yJx4a65c_add_72be8 cJx4a65c_add_72be8 4 none ∈ wsL_law := ql_4 _ (List.mem_of_getElem? (i := 21) rfl)
theorem q_118 : Cond.methodLink RJx4a65c 129 yJx4a65c_grow_d5877 ∈ wsL_law := ql_4 _ (List.mem_of_getElem? (i := 22) rfl)
theorem q_119 : Cond.instanceMethod yJx4a65c_grow_d5877 ∈ wsL_law := ql_4 _ (List.mem_of_getElem? (i := 23) rfl)
theorem q_120 : Cond.selects RJx4a65c yJx4a65c_grow_d5877 yJx4a65c_grow_d5877 ∈ wsL_law := ql_5 _ (List.mem_of_getElem? (i := 0) rfl)
theorem q_121 : Cond.code yJx4a65c_grow_d5877 cJx4a65c_grow_d5877 1 (some (.array (.object "java/lang/Object"))) ∈ wsL_law := ql_5 _ (List.mem_of_getElem? (i := 1) rfl)
theorem q_122 : Cond.methodLink RJx4a65c 69 yJx4a65c_grow_92f84 ∈ wsL_law := ql_5 _ (List.mem_of_getElem? (i := 2) rfl)
theorem q_123 : Cond.instanceMethod yJx4a65c_grow_92f84 ∈ wsL_law := ql_5 _ (List.mem_of_getElem? (i := 3) rfl)
theorem q_124 : Cond.selects RJx4a65c yJx4a65c_grow_92f84 yJx4a65c_grow_92f84 ∈ wsL_law := ql_5 _ (List.mem_of_getElem? (i := 4) rfl)
theorem q_125 : Cond.code yJx4a65c_grow_92f84 cJx4a65c_grow_92f84 4 (some (.array (.object "java/lang/Object"))) ∈ wsL_law := ql_5 _ (List.mem_of_getElem? (i := 5) rfl)
theorem q_126 : Cond.methodLink RJx4a65c 79 Lib.Math.max.name ∈ wsL_law := ql_5 _ (List.mem_of_getElem? (i := 6) rfl)
theorem q_127 : Cond.static Lib.Math.max.name ∈ wsL_law := ql_5 _ (List.mem_of_getElem? (i := 7) rfl)
theorem q_128 : Cond.initialized "java/lang/Math" ∈ wsL_law := ql_5 _ (List.mem_of_getElem? (i := 8) rfl)
theorem q_129 : Cond.code Lib.Math.max.name Lib.Math.max.code 2 (some .int) ∈ wsL_law := ql_5 _ (List.mem_of_getElem? (i := 9) rfl)
theorem q_130 : Cond.classLink RJx4a65c 7 "java/lang/Object" ∈ wsL_law := ql_5 _ (List.mem_of_getElem? (i := 10) rfl)
theorem q_131 : Cond.methodLink RJx4a65c 73 yJ8_newLength_cabcc ∈ wsL_law := ql_5 _ (List.mem_of_getElem? (i := 11) rfl)
theorem q_132 : Cond.static yJ8_newLength_cabcc ∈ wsL_law := ql_5 _ (List.mem_of_getElem? (i := 12) rfl)
theorem q_133 : Cond.initialized RJ8 ∈ wsL_law := ql_5 _ (List.mem_of_getElem? (i := 13) rfl)
theorem q_134 : Cond.code yJ8_newLength_cabcc cJ8_newLength_cabcc 4 (some .int) ∈ wsL_law := ql_5 _ (List.mem_of_getElem? (i := 14) rfl)
theorem q_135 : Cond.methodLink RJ8 194 Lib.Math.max.name ∈ wsL_law := ql_5 _ (List.mem_of_getElem? (i := 15) rfl)
theorem q_136 : Cond.constant RJ8 200 (2147483639) ∈ wsL_law := ql_5 _ (List.mem_of_getElem? (i := 16) rfl)
theorem q_137 : Cond.methodLink RJ8 201 yJ8_hugeLength_7cf53 ∈ wsL_law := ql_5 _ (List.mem_of_getElem? (i := 17) rfl)
theorem q_138 : Cond.static yJ8_hugeLength_7cf53 ∈ wsL_law := ql_5 _ (List.mem_of_getElem? (i := 18) rfl)
theorem q_139 : Cond.code yJ8_hugeLength_7cf53 cJ8_hugeLength_7cf53 3 (some .int) ∈ wsL_law := ql_5 _ (List.mem_of_getElem? (i := 19) rfl)
theorem q_140 : Cond.methodLink RJx4a65c 66 yJ7_copyOf_1904c ∈ wsL_law := ql_5 _ (List.mem_of_getElem? (i := 20) rfl)
theorem q_141 : Cond.static yJ7_copyOf_1904c ∈ wsL_law := ql_5 _ (List.mem_of_getElem? (i := 21) rfl)
theorem q_142 : Cond.initialized RJ7 ∈ wsL_law := ql_5 _ (List.mem_of_getElem? (i := 22) rfl)
theorem q_143 : Cond.code yJ7_copyOf_1904c cJ7_copyOf_1904c 2 (some (.array (.object "java/lang/Object"))) ∈ wsL_law := ql_5 _ (List.mem_of_getElem? (i := 23) rfl)
theorem q_144 : Cond.methodLink RJ7 86 ⟨"java/lang/Object", "getClass", "()Ljava/lang/Class;"⟩ ∈ wsL_law := ql_6 _ (List.mem_of_getElem? (i := 0) rfl)
theorem q_145 : Cond.selects "[Ljava/lang/Object;" ⟨"java/lang/Object", "getClass", "()Ljava/lang/Class;"⟩ ⟨"java/lang/Object", "getClass", "()Ljava/lang/Class;"⟩ ∈ wsL_law := ql_6 _ (List.mem_of_getElem? (i := 1) rfl)
theorem q_146 : Cond.instanceMethod ⟨"java/lang/Object", "getClass", "()Ljava/lang/Class;"⟩ ∈ wsL_law := ql_6 _ (List.mem_of_getElem? (i := 2) rfl)
theorem q_147 : Cond.native ⟨"java/lang/Object", "getClass", "()Ljava/lang/Class;"⟩ ∈ wsL_law := ql_6 _ (List.mem_of_getElem? (i := 3) rfl)
theorem q_148 : Cond.methodLink RJ7 300 yJ7_copyOf_6403c ∈ wsL_law := ql_6 _ (List.mem_of_getElem? (i := 4) rfl)
theorem q_149 : Cond.static yJ7_copyOf_6403c ∈ wsL_law := ql_6 _ (List.mem_of_getElem? (i := 5) rfl)
theorem q_150 : Cond.code yJ7_copyOf_6403c cJ7_copyOf_6403c 4 (some (.array (.object "java/lang/Object"))) ∈ wsL_law := ql_6 _ (List.mem_of_getElem? (i := 6) rfl)
theorem q_151 : Cond.classLink RJ7 110 "[Ljava/lang/Object;" ∈ wsL_law := ql_6 _ (List.mem_of_getElem? (i := 7) rfl)
theorem q_152 : Cond.classLink RJ7 2 "java/lang/Object" ∈ wsL_law := ql_6 _ (List.mem_of_getElem? (i := 8) rfl)
theorem q_153 : Cond.methodLink RJ7 304 Lib.Math.min.name ∈ wsL_law := ql_6 _ (List.mem_of_getElem? (i := 9) rfl)
theorem q_154 : Cond.static Lib.Math.min.name ∈ wsL_law := ql_6 _ (List.mem_of_getElem? (i := 10) rfl)
theorem q_155 : Cond.code Lib.Math.min.name Lib.Math.min.code 2 (some .int) ∈ wsL_law := ql_6 _ (List.mem_of_getElem? (i := 11) rfl)
theorem q_156 : Cond.methodLink RJ7 150 arraycopyName ∈ wsL_law := ql_6 _ (List.mem_of_getElem? (i := 12) rfl)
theorem q_157 : Cond.native arraycopyName ∈ wsL_law := ql_6 _ (List.mem_of_getElem? (i := 13) rfl)
theorem q_158 : Cond.static arraycopyName ∈ wsL_law := ql_6 _ (List.mem_of_getElem? (i := 14) rfl)
theorem q_159 : Cond.initialized "java/lang/System" ∈ wsL_law := ql_6 _ (List.mem_of_getElem? (i := 15) rfl)
theorem q_160 : Cond.methodLink RL 114 yL_streets ∈ wsL_law := ql_6 _ (List.mem_of_getElem? (i := 16) rfl)
theorem q_161 : Cond.static yL_streets ∈ wsL_law := ql_6 _ (List.mem_of_getElem? (i := 17) rfl)
theorem q_162 : Cond.code yL_streets cL_streets 7 (some .boolean) ∈ wsL_law := ql_6 _ (List.mem_of_getElem? (i := 18) rfl)
theorem q_163 : Cond.constant RL 86 (100000) ∈ wsL_law := ql_6 _ (List.mem_of_getElem? (i := 19) rfl)
theorem q_164 : Cond.methodLink RL 87 yX5_pay ∈ wsL_law := ql_6 _ (List.mem_of_getElem? (i := 20) rfl)
theorem q_165 : Cond.instanceMethod yX5_pay ∈ wsL_law := ql_6 _ (List.mem_of_getElem? (i := 21) rfl)
theorem q_166 : Cond.selects RX5 yX5_pay yX5_pay ∈ wsL_law := ql_6 _ (List.mem_of_getElem? (i := 22) rfl)
theorem q_167 : Cond.code yX5_pay cX5_pay 4 (some .int) ∈ wsL_law := ql_6 _ (List.mem_of_getElem? (i := 23) rfl)
theorem q_168 : Cond.constant RX5 65 (100000) ∈ wsL_law := ql_7 _ (List.mem_of_getElem? (i := 0) rfl)
theorem q_169 : Cond.methodLink RX5 46 yX5_findStreet ∈ wsL_law := ql_7 _ (List.mem_of_getElem? (i := 1) rfl)
theorem q_170 : Cond.instanceMethod yX5_findStreet ∈ wsL_law := ql_7 _ (List.mem_of_getElem? (i := 2) rfl)
theorem q_171 : Cond.selects RX5 yX5_findStreet yX5_findStreet ∈ wsL_law := ql_7 _ (List.mem_of_getElem? (i := 3) rfl)
theorem q_172 : Cond.code yX5_findStreet cX5_findStreet 2 (some (.object "LanternDesk$Street")) ∈ wsL_law := ql_7 _ (List.mem_of_getElem? (i := 4) rfl)
theorem q_173 : Cond.methodLink RL 90 yX5_setStreet ∈ wsL_law := ql_7 _ (List.mem_of_getElem? (i := 5) rfl)
theorem q_174 : Cond.instanceMethod yX5_setStreet ∈ wsL_law := ql_7 _ (List.mem_of_getElem? (i := 6) rfl)
theorem q_175 : Cond.selects RX5 yX5_setStreet yX5_setStreet ∈ wsL_law := ql_7 _ (List.mem_of_getElem? (i := 7) rfl)
theorem q_176 : Cond.code yX5_setStreet cX5_setStreet 6 (some .int) ∈ wsL_law := ql_7 _ (List.mem_of_getElem? (i := 8) rfl)
theorem q_177 : Cond.methodLink RL 94 yX5_vote ∈ wsL_law := ql_7 _ (List.mem_of_getElem? (i := 9) rfl)
theorem q_178 : Cond.instanceMethod yX5_vote ∈ wsL_law := ql_7 _ (List.mem_of_getElem? (i := 10) rfl)
theorem q_179 : Cond.selects RX5 yX5_vote yX5_vote ∈ wsL_law := ql_7 _ (List.mem_of_getElem? (i := 11) rfl)
theorem q_180 : Cond.code yX5_vote cX5_vote 5 (some .int) ∈ wsL_law := ql_7 _ (List.mem_of_getElem? (i := 12) rfl)
theorem q_181 : Cond.methodLink RX5 84 yX3_setVote ∈ wsL_law := ql_7 _ (List.mem_of_getElem? (i := 13) rfl)
theorem q_182 : Cond.instanceMethod yX3_setVote ∈ wsL_law := ql_7 _ (List.mem_of_getElem? (i := 14) rfl)
theorem q_183 : Cond.selects RX3 yX3_setVote yX3_setVote ∈ wsL_law := ql_7 _ (List.mem_of_getElem? (i := 15) rfl)
theorem q_184 : Cond.code yX3_setVote cX3_setVote 3 none ∈ wsL_law := ql_7 _ (List.mem_of_getElem? (i := 16) rfl)
theorem q_185 : Cond.methodLink RX5 88 yX3_daysKept ∈ wsL_law := ql_7 _ (List.mem_of_getElem? (i := 17) rfl)
theorem q_186 : Cond.instanceMethod yX3_daysKept ∈ wsL_law := ql_7 _ (List.mem_of_getElem? (i := 18) rfl)
theorem q_187 : Cond.selects RX3 yX3_daysKept yX3_daysKept ∈ wsL_law := ql_7 _ (List.mem_of_getElem? (i := 19) rfl)
theorem q_188 : Cond.code yX3_daysKept cX3_daysKept 8 (some .int) ∈ wsL_law := ql_7 _ (List.mem_of_getElem? (i := 20) rfl)
theorem q_189 : Cond.methodLink RX3 26 Lib.Math.min.name ∈ wsL_law := ql_7 _ (List.mem_of_getElem? (i := 21) rfl)
theorem q_190 : Cond.methodLink RX3 32 Lib.Math.max.name ∈ wsL_law := ql_7 _ (List.mem_of_getElem? (i := 22) rfl)
theorem q_191 : Cond.methodLink RL 38 yL_days ∈ wsL_law := ql_7 _ (List.mem_of_getElem? (i := 23) rfl)
theorem q_192 : Cond.static yL_days ∈ wsL_law := ql_8 _ (List.mem_of_getElem? (i := 0) rfl)
theorem q_193 : Cond.code yL_days cL_days 7 (some .int) ∈ wsL_law := ql_8 _ (List.mem_of_getElem? (i := 1) rfl)
theorem q_194 : Cond.methodLink RL 118 yL_calls ∈ wsL_law := ql_8 _ (List.mem_of_getElem? (i := 2) rfl)
theorem q_195 : Cond.static yL_calls ∈ wsL_law := ql_8 _ (List.mem_of_getElem? (i := 3) rfl)
theorem q_196 : Cond.codeWith yL_calls cL_calls 5 (some .int) [(0, 40, 41, 24)] ∈ wsL_law := ql_8 _ (List.mem_of_getElem? (i := 4) rfl)
theorem q_197 : Cond.classLink RL 24 "java/lang/IllegalStateException" ∈ wsL_law := ql_8 _ (List.mem_of_getElem? (i := 5) rfl)
theorem q_198 : Cond.methodLink RL 10 yX5_place ∈ wsL_law := ql_8 _ (List.mem_of_getElem? (i := 6) rfl)
theorem q_199 : Cond.instanceMethod yX5_place ∈ wsL_law := ql_8 _ (List.mem_of_getElem? (i := 7) rfl)
theorem q_200 : Cond.selects RX5 yX5_place yX5_place ∈ wsL_law := ql_8 _ (List.mem_of_getElem? (i := 8) rfl)
theorem q_201 : Cond.code yX5_place cX5_place 5 (some .int) ∈ wsL_law := ql_8 _ (List.mem_of_getElem? (i := 9) rfl)
theorem q_202 : Cond.methodLink RX5 92 yX5_findEscort ∈ wsL_law := ql_8 _ (List.mem_of_getElem? (i := 10) rfl)
theorem q_203 : Cond.instanceMethod yX5_findEscort ∈ wsL_law := ql_8 _ (List.mem_of_getElem? (i := 11) rfl)
theorem q_204 : Cond.selects RX5 yX5_findEscort yX5_findEscort ∈ wsL_law := ql_8 _ (List.mem_of_getElem? (i := 12) rfl)
theorem q_205 : Cond.code yX5_findEscort cX5_findEscort 2 (some (.object "LanternDesk$Escort")) ∈ wsL_law := ql_8 _ (List.mem_of_getElem? (i := 13) rfl)
theorem q_206 : Cond.methodLink RL 16 yX5_night ∈ wsL_law := ql_8 _ (List.mem_of_getElem? (i := 14) rfl)
theorem q_207 : Cond.instanceMethod yX5_night ∈ wsL_law := ql_8 _ (List.mem_of_getElem? (i := 15) rfl)
theorem q_208 : Cond.selects RX5 yX5_night yX5_night ∈ wsL_law := ql_8 _ (List.mem_of_getElem? (i := 16) rfl)
theorem q_209 : Cond.code yX5_night cX5_night 1 (some .int) ∈ wsL_law := ql_8 _ (List.mem_of_getElem? (i := 17) rfl)
theorem q_210 : Cond.methodLink RX5 136 yX5_areAllOver ∈ wsL_law := ql_8 _ (List.mem_of_getElem? (i := 18) rfl)
theorem q_211 : Cond.instanceMethod yX5_areAllOver ∈ wsL_law := ql_8 _ (List.mem_of_getElem? (i := 19) rfl)
theorem q_212 : Cond.selects RX5 yX5_areAllOver yX5_areAllOver ∈ wsL_law := ql_8 _ (List.mem_of_getElem? (i := 20) rfl)
theorem q_213 : Cond.code yX5_areAllOver cX5_areAllOver 2 (some .boolean) ∈ wsL_law := ql_8 _ (List.mem_of_getElem? (i := 21) rfl)
theorem q_214 : Cond.classLink RX5 117 "LanternDesk$Walk" ∈ wsL_law := ql_8 _ (List.mem_of_getElem? (i := 22) rfl)
theorem q_215 : Cond.methodLink RX5 203 yJx4a65c_get_915e3 ∈ wsL_law := ql_8 _ (List.mem_of_getElem? (i := 23) rfl)
theorem q_216 : Cond.instanceMethod yJx4a65c_get_915e3 ∈ wsL_law := ql_9 _ (List.mem_of_getElem? (i := 0) rfl)
theorem q_217 : Cond.selects RJx4a65c yJx4a65c_get_915e3 yJx4a65c_get_915e3 ∈ wsL_law := ql_9 _ (List.mem_of_getElem? (i := 1) rfl)
theorem q_218 : Cond.code yJx4a65c_get_915e3 cJx4a65c_get_915e3 2 (some (.object "java/lang/Object")) ∈ wsL_law := ql_9 _ (List.mem_of_getElem? (i := 2) rfl)
theorem q_219 : Cond.methodLink RJx4a65c 118 yJ15_checkIndex_7cf53 ∈ wsL_law := ql_9 _ (List.mem_of_getElem? (i := 3) rfl)
theorem q_220 : Cond.static yJ15_checkIndex_7cf53 ∈ wsL_law := ql_9 _ (List.mem_of_getElem? (i := 4) rfl)
theorem q_221 : Cond.initialized RJ15 ∈ wsL_law := ql_9 _ (List.mem_of_getElem? (i := 5) rfl)
theorem q_222 : Cond.code yJ15_checkIndex_7cf53 cJ15_checkIndex_7cf53 2 (some .int) ∈ wsL_law := ql_9 _ (List.mem_of_getElem? (i := 6) rfl)
theorem q_223 : Cond.methodLink RJ15 105 yJ3_checkIndex_8e157 ∈ wsL_law := ql_9 _ (List.mem_of_getElem? (i := 7) rfl)
theorem q_224 : Cond.static yJ3_checkIndex_8e157 ∈ wsL_law := ql_9 _ (List.mem_of_getElem? (i := 8) rfl)
theorem q_225 : Cond.initialized RJ3 ∈ wsL_law := ql_9 _ (List.mem_of_getElem? (i := 9) rfl)
theorem q_226 : Cond.code yJ3_checkIndex_8e157 cJ3_checkIndex_8e157 3 (some .int) ∈ wsL_law := ql_9 _ (List.mem_of_getElem? (i := 10) rfl)
theorem q_227 : Cond.methodLink RJx4a65c 123 yJx4a65c_elementData_915e3 ∈ wsL_law := ql_9 _ (List.mem_of_getElem? (i := 11) rfl)
theorem q_228 : Cond.instanceMethod yJx4a65c_elementData_915e3 ∈ wsL_law := ql_9 _ (List.mem_of_getElem? (i := 12) rfl)
theorem q_229 : Cond.selects RJx4a65c yJx4a65c_elementData_915e3 yJx4a65c_elementData_915e3 ∈ wsL_law := ql_9 _ (List.mem_of_getElem? (i := 13) rfl)
theorem q_230 : Cond.code yJx4a65c_elementData_915e3 cJx4a65c_elementData_915e3 2 (some (.object "java/lang/Object")) ∈ wsL_law := ql_9 _ (List.mem_of_getElem? (i := 14) rfl)
theorem q_231 : Cond.methodLink RX5 144 yX0_eraseDue ∈ wsL_law := ql_9 _ (List.mem_of_getElem? (i := 15) rfl)
theorem q_232 : Cond.instanceMethod yX0_eraseDue ∈ wsL_law := ql_9 _ (List.mem_of_getElem? (i := 16) rfl)
theorem q_233 : Cond.selects RX0 yX0_eraseDue yX0_eraseDue ∈ wsL_law := ql_9 _ (List.mem_of_getElem? (i := 17) rfl)
theorem q_234 : Cond.code yX0_eraseDue cX0_eraseDue 4 (some .int) ∈ wsL_law := ql_9 _ (List.mem_of_getElem? (i := 18) rfl)
theorem q_235 : Cond.classLink RX0 29 "LanternDesk$Picture" ∈ wsL_law := ql_9 _ (List.mem_of_getElem? (i := 19) rfl)
theorem q_236 : Cond.methodLink RX0 21 yJx4a65c_size_8abf5 ∈ wsL_law := ql_9 _ (List.mem_of_getElem? (i := 20) rfl)
theorem q_237 : Cond.methodLink RX0 38 yJx4a65c_get_915e3 ∈ wsL_law := ql_9 _ (List.mem_of_getElem? (i := 21) rfl)
theorem q_238 : Cond.methodLink RX0 49 yJx4a65c_remove_915e3 ∈ wsL_law := ql_9 _ (List.mem_of_getElem? (i := 22) rfl)
theorem q_239 : Cond.instanceMethod yJx4a65c_remove_915e3 ∈ wsL_law := ql_9 _ (List.mem_of_getElem? (i := 23) rfl)
theorem q_240 : Cond.selects RJx4a65c yJx4a65c_remove_915e3 yJx4a65c_remove_915e3 ∈ wsL_law := ql_10 _ (List.mem_of_getElem? (i := 0) rfl)
theorem q_241 : Cond.code yJx4a65c_remove_915e3 cJx4a65c_remove_915e3 4 (some (.object "java/lang/Object")) ∈ wsL_law := ql_10 _ (List.mem_of_getElem? (i := 1) rfl)
theorem q_242 : Cond.methodLink RJx4a65c 144 yJx4a65c_fastRemove_b59b0 ∈ wsL_law := ql_10 _ (List.mem_of_getElem? (i := 2) rfl)
theorem q_243 : Cond.instanceMethod yJx4a65c_fastRemove_b59b0 ∈ wsL_law := ql_10 _ (List.mem_of_getElem? (i := 3) rfl)
theorem q_244 : Cond.selects RJx4a65c yJx4a65c_fastRemove_b59b0 yJx4a65c_fastRemove_b59b0 ∈ wsL_law := ql_10 _ (List.mem_of_getElem? (i := 4) rfl)
theorem q_245 : Cond.code yJx4a65c_fastRemove_b59b0 cJx4a65c_fastRemove_b59b0 4 none ∈ wsL_law := ql_10 _ (List.mem_of_getElem? (i := 5) rfl)
theorem q_246 : Cond.methodLink RJx4a65c 112 arraycopyName ∈ wsL_law := ql_10 _ (List.mem_of_getElem? (i := 6) rfl)
theorem q_247 : Cond.methodLink RL 20 yX5_complain ∈ wsL_law := ql_10 _ (List.mem_of_getElem? (i := 7) rfl)
theorem q_248 : Cond.instanceMethod yX5_complain ∈ wsL_law := ql_10 _ (List.mem_of_getElem? (i := 8) rfl)
theorem q_249 : Cond.selects RX5 yX5_complain yX5_complain ∈ wsL_law := ql_10 _ (List.mem_of_getElem? (i := 9) rfl)
theorem q_250 : Cond.code yX5_complain cX5_complain 5 (some .int) ∈ wsL_law := ql_10 _ (List.mem_of_getElem? (i := 10) rfl)
theorem q_251 : Cond.methodLink RX5 171 Lib.Math.min.name ∈ wsL_law := ql_10 _ (List.mem_of_getElem? (i := 11) rfl)
theorem q_252 : Cond.methodLink RX5 177 Lib.Math.max.name ∈ wsL_law := ql_10 _ (List.mem_of_getElem? (i := 12) rfl)
theorem q_253 : Cond.methodLink RX5 148 yX5_findWalk ∈ wsL_law := ql_10 _ (List.mem_of_getElem? (i := 13) rfl)
theorem q_254 : Cond.instanceMethod yX5_findWalk ∈ wsL_law := ql_10 _ (List.mem_of_getElem? (i := 14) rfl)
theorem q_255 : Cond.selects RX5 yX5_findWalk yX5_findWalk ∈ wsL_law := ql_10 _ (List.mem_of_getElem? (i := 15) rfl)
theorem q_256 : Cond.code yX5_findWalk cX5_findWalk 2 (some (.object "LanternDesk$Walk")) ∈ wsL_law := ql_10 _ (List.mem_of_getElem? (i := 16) rfl)
theorem q_257 : Cond.methodLink RL 122 yL_night ∈ wsL_law := ql_10 _ (List.mem_of_getElem? (i := 17) rfl)
theorem q_258 : Cond.static yL_night ∈ wsL_law := ql_10 _ (List.mem_of_getElem? (i := 18) rfl)
theorem q_259 : Cond.code yL_night cL_night 5 (some .int) ∈ wsL_law := ql_10 _ (List.mem_of_getElem? (i := 19) rfl)
theorem q_260 : Cond.methodLink RL 125 yX5_pass ∈ wsL_law := ql_10 _ (List.mem_of_getElem? (i := 20) rfl)
theorem q_261 : Cond.instanceMethod yX5_pass ∈ wsL_law := ql_10 _ (List.mem_of_getElem? (i := 21) rfl)
theorem q_262 : Cond.selects RX5 yX5_pass yX5_pass ∈ wsL_law := ql_10 _ (List.mem_of_getElem? (i := 22) rfl)
theorem q_263 : Cond.code yX5_pass cX5_pass 4 (some .int) ∈ wsL_law := ql_10 _ (List.mem_of_getElem? (i := 23) rfl)
theorem q_264 : Cond.methodLink RX5 130 yX5_giveEscorts ∈ wsL_law := ql_11 _ (List.mem_of_getElem? (i := 0) rfl)
theorem q_265 : Cond.instanceMethod yX5_giveEscorts ∈ wsL_law := ql_11 _ (List.mem_of_getElem? (i := 1) rfl)
theorem q_266 : Cond.selects RX5 yX5_giveEscorts yX5_giveEscorts ∈ wsL_law := ql_11 _ (List.mem_of_getElem? (i := 2) rfl)
theorem q_267 : Cond.code yX5_giveEscorts cX5_giveEscorts 4 none ∈ wsL_law := ql_11 _ (List.mem_of_getElem? (i := 3) rfl)
theorem q_268 : Cond.methodLink RX5 216 yX5_bestFreeEscort ∈ wsL_law := ql_11 _ (List.mem_of_getElem? (i := 4) rfl)
theorem q_269 : Cond.instanceMethod yX5_bestFreeEscort ∈ wsL_law := ql_11 _ (List.mem_of_getElem? (i := 5) rfl)
theorem q_270 : Cond.selects RX5 yX5_bestFreeEscort yX5_bestFreeEscort ∈ wsL_law := ql_11 _ (List.mem_of_getElem? (i := 6) rfl)
theorem q_271 : Cond.code yX5_bestFreeEscort cX5_bestFreeEscort 5 (some (.object "LanternDesk$Escort")) ∈ wsL_law := ql_11 _ (List.mem_of_getElem? (i := 7) rfl)
theorem q_272 : Cond.methodLink RX5 219 yX5_isBetter ∈ wsL_law := ql_11 _ (List.mem_of_getElem? (i := 8) rfl)
theorem q_273 : Cond.static yX5_isBetter ∈ wsL_law := ql_11 _ (List.mem_of_getElem? (i := 9) rfl)
theorem q_274 : Cond.code yX5_isBetter cX5_isBetter 5 (some .boolean) ∈ wsL_law := ql_11 _ (List.mem_of_getElem? (i := 10) rfl)
theorem q_275 : Cond.methodLink RX5 186 yX5_distance ∈ wsL_law := ql_11 _ (List.mem_of_getElem? (i := 11) rfl)
theorem q_276 : Cond.static yX5_distance ∈ wsL_law := ql_11 _ (List.mem_of_getElem? (i := 12) rfl)
theorem q_277 : Cond.code yX5_distance cX5_distance 3 (some .int) ∈ wsL_law := ql_11 _ (List.mem_of_getElem? (i := 13) rfl)
theorem q_278 : Cond.methodLink RX5 210 yX5_stepsUp ∈ wsL_law := ql_11 _ (List.mem_of_getElem? (i := 14) rfl)
theorem q_279 : Cond.static yX5_stepsUp ∈ wsL_law := ql_11 _ (List.mem_of_getElem? (i := 15) rfl)
theorem q_280 : Cond.code yX5_stepsUp cX5_stepsUp 2 (some .int) ∈ wsL_law := ql_11 _ (List.mem_of_getElem? (i := 16) rfl)
theorem q_281 : Cond.methodLink RX5 207 yJ9_floorMod_7cf53 ∈ wsL_law := ql_11 _ (List.mem_of_getElem? (i := 17) rfl)
theorem q_282 : Cond.static yJ9_floorMod_7cf53 ∈ wsL_law := ql_11 _ (List.mem_of_getElem? (i := 18) rfl)
theorem q_283 : Cond.initialized RJ9 ∈ wsL_law := ql_11 _ (List.mem_of_getElem? (i := 19) rfl)
theorem q_284 : Cond.code yJ9_floorMod_7cf53 cJ9_floorMod_7cf53 3 (some .int) ∈ wsL_law := ql_11 _ (List.mem_of_getElem? (i := 20) rfl)
theorem q_285 : Cond.methodLink RX5 133 yX5_goOn ∈ wsL_law := ql_11 _ (List.mem_of_getElem? (i := 21) rfl)
theorem q_286 : Cond.instanceMethod yX5_goOn ∈ wsL_law := ql_11 _ (List.mem_of_getElem? (i := 22) rfl)
theorem q_287 : Cond.selects RX5 yX5_goOn yX5_goOn ∈ wsL_law := ql_11 _ (List.mem_of_getElem? (i := 23) rfl)
theorem q_288 : Cond.code yX5_goOn cX5_goOn 5 (some .int) ∈ wsL_law := ql_12 _ (List.mem_of_getElem? (i := 0) rfl)
theorem q_289 : Cond.methodLink RX5 223 yX5_move ∈ wsL_law := ql_12 _ (List.mem_of_getElem? (i := 1) rfl)
theorem q_290 : Cond.static yX5_move ∈ wsL_law := ql_12 _ (List.mem_of_getElem? (i := 2) rfl)
theorem q_291 : Cond.code yX5_move cX5_move 2 none ∈ wsL_law := ql_12 _ (List.mem_of_getElem? (i := 3) rfl)
theorem q_292 : Cond.methodLink RX5 238 yX5_oneStepOn ∈ wsL_law := ql_12 _ (List.mem_of_getElem? (i := 4) rfl)
theorem q_293 : Cond.static yX5_oneStepOn ∈ wsL_law := ql_12 _ (List.mem_of_getElem? (i := 5) rfl)
theorem q_294 : Cond.code yX5_oneStepOn cX5_oneStepOn 3 (some .int) ∈ wsL_law := ql_12 _ (List.mem_of_getElem? (i := 6) rfl)
theorem q_295 : Cond.methodLink RX5 227 yX5_see ∈ wsL_law := ql_12 _ (List.mem_of_getElem? (i := 7) rfl)
theorem q_296 : Cond.instanceMethod yX5_see ∈ wsL_law := ql_12 _ (List.mem_of_getElem? (i := 8) rfl)
theorem q_297 : Cond.selects RX5 yX5_see yX5_see ∈ wsL_law := ql_12 _ (List.mem_of_getElem? (i := 9) rfl)
theorem q_298 : Cond.code yX5_see cX5_see 4 none ∈ wsL_law := ql_12 _ (List.mem_of_getElem? (i := 10) rfl)
theorem q_299 : Cond.methodLink RX5 242 yX0_take ∈ wsL_law := ql_12 _ (List.mem_of_getElem? (i := 11) rfl)
theorem q_300 : Cond.instanceMethod yX0_take ∈ wsL_law := ql_12 _ (List.mem_of_getElem? (i := 12) rfl)
theorem q_301 : Cond.selects RX0 yX0_take yX0_take ∈ wsL_law := ql_12 _ (List.mem_of_getElem? (i := 13) rfl)
theorem q_302 : Cond.code yX0_take cX0_take 6 none ∈ wsL_law := ql_12 _ (List.mem_of_getElem? (i := 14) rfl)
theorem q_303 : Cond.classLink RX0 29 RX2 ∈ wsL_law := ql_12 _ (List.mem_of_getElem? (i := 15) rfl)
theorem q_304 : Cond.instantiable RX2 4 ∈ wsL_law := ql_12 _ (List.mem_of_getElem? (i := 16) rfl)
theorem q_305 : Cond.initialized RX2 ∈ wsL_law := ql_12 _ (List.mem_of_getElem? (i := 17) rfl)
theorem q_306 : Cond.methodLink RX0 25 yX0_keeps ∈ wsL_law := ql_12 _ (List.mem_of_getElem? (i := 18) rfl)
theorem q_307 : Cond.instanceMethod yX0_keeps ∈ wsL_law := ql_12 _ (List.mem_of_getElem? (i := 19) rfl)
theorem q_308 : Cond.selects RX0 yX0_keeps yX0_keeps ∈ wsL_law := ql_12 _ (List.mem_of_getElem? (i := 20) rfl)
theorem q_309 : Cond.code yX0_keeps cX0_keeps 5 (some .boolean) ∈ wsL_law := ql_12 _ (List.mem_of_getElem? (i := 21) rfl)
theorem q_310 : Cond.methodLink RX0 42 yX2_isOf ∈ wsL_law := ql_12 _ (List.mem_of_getElem? (i := 22) rfl)
theorem q_311 : Cond.instanceMethod yX2_isOf ∈ wsL_law := ql_12 _ (List.mem_of_getElem? (i := 23) rfl)
theorem q_312 : Cond.selects RX2 yX2_isOf yX2_isOf ∈ wsL_law := ql_13 _ (List.mem_of_getElem? (i := 0) rfl)
theorem q_313 : Cond.code yX2_isOf cX2_isOf 4 (some .boolean) ∈ wsL_law := ql_13 _ (List.mem_of_getElem? (i := 1) rfl)
theorem q_314 : Cond.fieldLink RX2 7 "LanternDesk$Picture" "street" "I" ∈ wsL_law := ql_13 _ (List.mem_of_getElem? (i := 2) rfl)
theorem q_315 : Cond.fieldLink RX2 13 "LanternDesk$Picture" "walk" "I" ∈ wsL_law := ql_13 _ (List.mem_of_getElem? (i := 3) rfl)
theorem q_316 : Cond.fieldLink RX2 16 "LanternDesk$Picture" "takenOn" "I" ∈ wsL_law := ql_13 _ (List.mem_of_getElem? (i := 4) rfl)
theorem q_317 : Cond.methodLink RX0 31 yX2_init ∈ wsL_law := ql_13 _ (List.mem_of_getElem? (i := 5) rfl)
theorem q_318 : Cond.instanceMethod yX2_init ∈ wsL_law := ql_13 _ (List.mem_of_getElem? (i := 6) rfl)
theorem q_319 : Cond.code yX2_init cX2_init 5 none ∈ wsL_law := ql_13 _ (List.mem_of_getElem? (i := 7) rfl)
theorem q_320 : Cond.methodLink RX2 1 objectInit ∈ wsL_law := ql_13 _ (List.mem_of_getElem? (i := 8) rfl)
theorem q_321 : Cond.fieldLink RX2 19 "LanternDesk$Picture" "erasedOn" "I" ∈ wsL_law := ql_13 _ (List.mem_of_getElem? (i := 9) rfl)
theorem q_322 : Cond.methodLink RX0 34 yJx4a65c_add_9ea2d ∈ wsL_law := ql_13 _ (List.mem_of_getElem? (i := 10) rfl)
theorem q_323 : Cond.methodLink RX5 231 yX5_endIfThere ∈ wsL_law := ql_13 _ (List.mem_of_getElem? (i := 11) rfl)
theorem q_324 : Cond.static yX5_endIfThere ∈ wsL_law := ql_13 _ (List.mem_of_getElem? (i := 12) rfl)
theorem q_325 : Cond.code yX5_endIfThere cX5_endIfThere 2 (some .int) ∈ wsL_law := ql_13 _ (List.mem_of_getElem? (i := 13) rfl)
theorem q_326 : Cond.methodLink RL 128 yL_minutes ∈ wsL_law := ql_13 _ (List.mem_of_getElem? (i := 14) rfl)
theorem q_327 : Cond.static yL_minutes ∈ wsL_law := ql_13 _ (List.mem_of_getElem? (i := 15) rfl)
theorem q_328 : Cond.code yL_minutes cL_minutes 11 (some .int) ∈ wsL_law := ql_13 _ (List.mem_of_getElem? (i := 16) rfl)
theorem q_329 : Cond.methodLink RL 98 yL_sends ∈ wsL_law := ql_13 _ (List.mem_of_getElem? (i := 17) rfl)
theorem q_330 : Cond.static yL_sends ∈ wsL_law := ql_13 _ (List.mem_of_getElem? (i := 18) rfl)
theorem q_331 : Cond.code yL_sends cL_sends 8 none ∈ wsL_law := ql_13 _ (List.mem_of_getElem? (i := 19) rfl)
theorem q_332 : Cond.methodLink RL 26 yL_way ∈ wsL_law := ql_13 _ (List.mem_of_getElem? (i := 20) rfl)
theorem q_333 : Cond.static yL_way ∈ wsL_law := ql_13 _ (List.mem_of_getElem? (i := 21) rfl)
theorem q_334 : Cond.code yL_way cL_way 3 (some .int) ∈ wsL_law := ql_13 _ (List.mem_of_getElem? (i := 22) rfl)
theorem q_335 : Cond.methodLink RL 102 yL_goes ∈ wsL_law := ql_13 _ (List.mem_of_getElem? (i := 23) rfl)
theorem q_336 : Cond.static yL_goes ∈ wsL_law := ql_14 _ (List.mem_of_getElem? (i := 0) rfl)
theorem q_337 : Cond.code yL_goes cL_goes 11 (some .boolean) ∈ wsL_law := ql_14 _ (List.mem_of_getElem? (i := 1) rfl)
theorem q_338 : Cond.methodLink RL 31 yL_step ∈ wsL_law := ql_14 _ (List.mem_of_getElem? (i := 2) rfl)
theorem q_339 : Cond.static yL_step ∈ wsL_law := ql_14 _ (List.mem_of_getElem? (i := 3) rfl)
theorem q_340 : Cond.code yL_step cL_step 3 (some .int) ∈ wsL_law := ql_14 _ (List.mem_of_getElem? (i := 4) rfl)
theorem q_341 : Cond.methodLink RL 34 yL_shows ∈ wsL_law := ql_14 _ (List.mem_of_getElem? (i := 5) rfl)
theorem q_342 : Cond.static yL_shows ∈ wsL_law := ql_14 _ (List.mem_of_getElem? (i := 6) rfl)
theorem q_343 : Cond.code yL_shows cL_shows 8 (some .boolean) ∈ wsL_law := ql_14 _ (List.mem_of_getElem? (i := 7) rfl)
theorem q_344 : Cond.methodLink RL 132 yL_isSo ∈ wsL_law := ql_14 _ (List.mem_of_getElem? (i := 8) rfl)
theorem q_345 : Cond.static yL_isSo ∈ wsL_law := ql_14 _ (List.mem_of_getElem? (i := 9) rfl)
theorem q_346 : Cond.code yL_isSo cL_isSo 13 (some .boolean) ∈ wsL_law := ql_14 _ (List.mem_of_getElem? (i := 10) rfl)
theorem q_347 : Cond.methodLink RL 42 yX5_day ∈ wsL_law := ql_14 _ (List.mem_of_getElem? (i := 11) rfl)
theorem q_348 : Cond.instanceMethod yX5_day ∈ wsL_law := ql_14 _ (List.mem_of_getElem? (i := 12) rfl)
theorem q_349 : Cond.selects RX5 yX5_day yX5_day ∈ wsL_law := ql_14 _ (List.mem_of_getElem? (i := 13) rfl)
theorem q_350 : Cond.code yX5_day cX5_day 1 (some .int) ∈ wsL_law := ql_14 _ (List.mem_of_getElem? (i := 14) rfl)
theorem q_351 : Cond.methodLink RL 45 yX5_minute ∈ wsL_law := ql_14 _ (List.mem_of_getElem? (i := 15) rfl)
theorem q_352 : Cond.instanceMethod yX5_minute ∈ wsL_law := ql_14 _ (List.mem_of_getElem? (i := 16) rfl)
theorem q_353 : Cond.selects RX5 yX5_minute yX5_minute ∈ wsL_law := ql_14 _ (List.mem_of_getElem? (i := 17) rfl)
theorem q_354 : Cond.code yX5_minute cX5_minute 1 (some .int) ∈ wsL_law := ql_14 _ (List.mem_of_getElem? (i := 18) rfl)
theorem q_355 : Cond.methodLink RL 48 yX5_walks ∈ wsL_law := ql_14 _ (List.mem_of_getElem? (i := 19) rfl)
theorem q_356 : Cond.instanceMethod yX5_walks ∈ wsL_law := ql_14 _ (List.mem_of_getElem? (i := 20) rfl)
theorem q_357 : Cond.selects RX5 yX5_walks yX5_walks ∈ wsL_law := ql_14 _ (List.mem_of_getElem? (i := 21) rfl)
theorem q_358 : Cond.code yX5_walks cX5_walks 1 (some .int) ∈ wsL_law := ql_14 _ (List.mem_of_getElem? (i := 22) rfl)
theorem q_359 : Cond.methodLink RL 51 yX5_taken ∈ wsL_law := ql_14 _ (List.mem_of_getElem? (i := 23) rfl)
theorem q_360 : Cond.instanceMethod yX5_taken ∈ wsL_law := ql_15 _ (List.mem_of_getElem? (i := 0) rfl)
theorem q_361 : Cond.selects RX5 yX5_taken yX5_taken ∈ wsL_law := ql_15 _ (List.mem_of_getElem? (i := 1) rfl)
theorem q_362 : Cond.code yX5_taken cX5_taken 1 (some .int) ∈ wsL_law := ql_15 _ (List.mem_of_getElem? (i := 2) rfl)
theorem q_363 : Cond.methodLink RX5 200 yX0_countTaken ∈ wsL_law := ql_15 _ (List.mem_of_getElem? (i := 3) rfl)
theorem q_364 : Cond.instanceMethod yX0_countTaken ∈ wsL_law := ql_15 _ (List.mem_of_getElem? (i := 4) rfl)
theorem q_365 : Cond.selects RX0 yX0_countTaken yX0_countTaken ∈ wsL_law := ql_15 _ (List.mem_of_getElem? (i := 5) rfl)
theorem q_366 : Cond.code yX0_countTaken cX0_countTaken 1 (some .int) ∈ wsL_law := ql_15 _ (List.mem_of_getElem? (i := 6) rfl)
theorem q_367 : Cond.methodLink RL 54 yX5_purse ∈ wsL_law := ql_15 _ (List.mem_of_getElem? (i := 7) rfl)
theorem q_368 : Cond.instanceMethod yX5_purse ∈ wsL_law := ql_15 _ (List.mem_of_getElem? (i := 8) rfl)
theorem q_369 : Cond.selects RX5 yX5_purse yX5_purse ∈ wsL_law := ql_15 _ (List.mem_of_getElem? (i := 9) rfl)
theorem q_370 : Cond.code yX5_purse cX5_purse 3 (some .int) ∈ wsL_law := ql_15 _ (List.mem_of_getElem? (i := 10) rfl)
theorem q_371 : Cond.methodLink RL 61 yX5_way ∈ wsL_law := ql_15 _ (List.mem_of_getElem? (i := 11) rfl)
theorem q_372 : Cond.instanceMethod yX5_way ∈ wsL_law := ql_15 _ (List.mem_of_getElem? (i := 12) rfl)
theorem q_373 : Cond.selects RX5 yX5_way yX5_way ∈ wsL_law := ql_15 _ (List.mem_of_getElem? (i := 13) rfl)
theorem q_374 : Cond.code yX5_way cX5_way 3 (some .int) ∈ wsL_law := ql_15 _ (List.mem_of_getElem? (i := 14) rfl)
theorem q_375 : Cond.methodLink RL 62 yX5_streetOf ∈ wsL_law := ql_15 _ (List.mem_of_getElem? (i := 15) rfl)
theorem q_376 : Cond.instanceMethod yX5_streetOf ∈ wsL_law := ql_15 _ (List.mem_of_getElem? (i := 16) rfl)
theorem q_377 : Cond.selects RX5 yX5_streetOf yX5_streetOf ∈ wsL_law := ql_15 _ (List.mem_of_getElem? (i := 17) rfl)
theorem q_378 : Cond.code yX5_streetOf cX5_streetOf 3 (some .int) ∈ wsL_law := ql_15 _ (List.mem_of_getElem? (i := 18) rfl)
theorem q_379 : Cond.methodLink RL 65 yX5_rank ∈ wsL_law := ql_15 _ (List.mem_of_getElem? (i := 19) rfl)
theorem q_380 : Cond.instanceMethod yX5_rank ∈ wsL_law := ql_15 _ (List.mem_of_getElem? (i := 20) rfl)
theorem q_381 : Cond.selects RX5 yX5_rank yX5_rank ∈ wsL_law := ql_15 _ (List.mem_of_getElem? (i := 21) rfl)
theorem q_382 : Cond.code yX5_rank cX5_rank 3 (some .int) ∈ wsL_law := ql_15 _ (List.mem_of_getElem? (i := 22) rfl)
theorem q_383 : Cond.methodLink RL 68 yX5_state ∈ wsL_law := ql_15 _ (List.mem_of_getElem? (i := 23) rfl)
theorem q_384 : Cond.instanceMethod yX5_state ∈ wsL_law := ql_16 _ (List.mem_of_getElem? (i := 0) rfl)
theorem q_385 : Cond.selects RX5 yX5_state yX5_state ∈ wsL_law := ql_16 _ (List.mem_of_getElem? (i := 1) rfl)
theorem q_386 : Cond.code yX5_state cX5_state 3 (some .int) ∈ wsL_law := ql_16 _ (List.mem_of_getElem? (i := 2) rfl)
theorem q_387 : Cond.methodLink RL 71 yX5_escortOf ∈ wsL_law := ql_16 _ (List.mem_of_getElem? (i := 3) rfl)
theorem q_388 : Cond.instanceMethod yX5_escortOf ∈ wsL_law := ql_16 _ (List.mem_of_getElem? (i := 4) rfl)
theorem q_389 : Cond.selects RX5 yX5_escortOf yX5_escortOf ∈ wsL_law := ql_16 _ (List.mem_of_getElem? (i := 5) rfl)
theorem q_390 : Cond.code yX5_escortOf cX5_escortOf 4 (some .int) ∈ wsL_law := ql_16 _ (List.mem_of_getElem? (i := 6) rfl)
theorem q_391 : Cond.methodLink RL 74 yX5_dark ∈ wsL_law := ql_16 _ (List.mem_of_getElem? (i := 7) rfl)
theorem q_392 : Cond.instanceMethod yX5_dark ∈ wsL_law := ql_16 _ (List.mem_of_getElem? (i := 8) rfl)
theorem q_393 : Cond.selects RX5 yX5_dark yX5_dark ∈ wsL_law := ql_16 _ (List.mem_of_getElem? (i := 9) rfl)
theorem q_394 : Cond.code yX5_dark cX5_dark 3 (some .int) ∈ wsL_law := ql_16 _ (List.mem_of_getElem? (i := 10) rfl)
theorem q_395 : Cond.methodLink RL 77 yX5_pictures ∈ wsL_law := ql_16 _ (List.mem_of_getElem? (i := 11) rfl)
theorem q_396 : Cond.instanceMethod yX5_pictures ∈ wsL_law := ql_16 _ (List.mem_of_getElem? (i := 12) rfl)
theorem q_397 : Cond.selects RX5 yX5_pictures yX5_pictures ∈ wsL_law := ql_16 _ (List.mem_of_getElem? (i := 13) rfl)
theorem q_398 : Cond.code yX5_pictures cX5_pictures 1 (some .int) ∈ wsL_law := ql_16 _ (List.mem_of_getElem? (i := 14) rfl)
theorem q_399 : Cond.methodLink RX5 189 yX0_countKept ∈ wsL_law := ql_16 _ (List.mem_of_getElem? (i := 15) rfl)
theorem q_400 : Cond.instanceMethod yX0_countKept ∈ wsL_law := ql_16 _ (List.mem_of_getElem? (i := 16) rfl)
theorem q_401 : Cond.selects RX0 yX0_countKept yX0_countKept ∈ wsL_law := ql_16 _ (List.mem_of_getElem? (i := 17) rfl)
theorem q_402 : Cond.code yX0_countKept cX0_countKept 1 (some .int) ∈ wsL_law := ql_16 _ (List.mem_of_getElem? (i := 18) rfl)
theorem q_403 : Cond.methodLink RL 80 yX5_shows ∈ wsL_law := ql_16 _ (List.mem_of_getElem? (i := 19) rfl)
theorem q_404 : Cond.instanceMethod yX5_shows ∈ wsL_law := ql_16 _ (List.mem_of_getElem? (i := 20) rfl)
theorem q_405 : Cond.selects RX5 yX5_shows yX5_shows ∈ wsL_law := ql_16 _ (List.mem_of_getElem? (i := 21) rfl)
theorem q_406 : Cond.code yX5_shows cX5_shows 4 (some .boolean) ∈ wsL_law := ql_16 _ (List.mem_of_getElem? (i := 22) rfl)
theorem q_407 : Cond.methodLink RX5 192 yX0_keeps ∈ wsL_law := ql_16 _ (List.mem_of_getElem? (i := 23) rfl)
theorem q_408 : Cond.methodLink RL 83 yX5_showsByPapers ∈ wsL_law := ql_17 _ (List.mem_of_getElem? (i := 0) rfl)
theorem q_409 : Cond.instanceMethod yX5_showsByPapers ∈ wsL_law := ql_17 _ (List.mem_of_getElem? (i := 1) rfl)
theorem q_410 : Cond.selects RX5 yX5_showsByPapers yX5_showsByPapers ∈ wsL_law := ql_17 _ (List.mem_of_getElem? (i := 2) rfl)
theorem q_411 : Cond.code yX5_showsByPapers cX5_showsByPapers 4 (some .boolean) ∈ wsL_law := ql_17 _ (List.mem_of_getElem? (i := 3) rfl)
theorem q_412 : Cond.methodLink RX5 196 yX0_papersTell ∈ wsL_law := ql_17 _ (List.mem_of_getElem? (i := 4) rfl)
theorem q_413 : Cond.instanceMethod yX0_papersTell ∈ wsL_law := ql_17 _ (List.mem_of_getElem? (i := 5) rfl)
theorem q_414 : Cond.selects RX0 yX0_papersTell yX0_papersTell ∈ wsL_law := ql_17 _ (List.mem_of_getElem? (i := 6) rfl)
theorem q_415 : Cond.code yX0_papersTell cX0_papersTell 7 (some .boolean) ∈ wsL_law := ql_17 _ (List.mem_of_getElem? (i := 7) rfl)
set_option maxRecDepth 20000 in
theorem q_good : wsL_law.all goodWord = true := by decide +kernel
end
section
theorem dX0_init_0 : decode cX0_init 0 = .ok (.aload_n 0, 1) := by decide +kernel
theorem dX0_init_1 : decode cX0_init 1 = .ok (.invokespecial 3, 3) := by decide +kernel
theorem dX0_init_4 : decode cX0_init 4 = .ok (.aload_n 0, 1) := by decide +kernel
theorem dX0_init_5 : decode cX0_init 5 = .ok (.new 9, 3) := by decide +kernel
theorem dX0_init_8 : decode cX0_init 8 = .ok (.dup, 1) := by decide +kernel
theorem dX0_init_9 : decode cX0_init 9 = .ok (.invokespecial 11, 3) := by decide +kernel
theorem dX0_init_12 : decode cX0_init 12 = .ok (.putfield 12, 3) := by decide +kernel
theorem dX0_init_15 : decode cX0_init 15 = .ok (.aload_n 0, 1) := by decide +kernel
theorem dX0_init_16 : decode cX0_init 16 = .ok (.new 9, 3) := by decide +kernel
theorem dX0_init_19 : decode cX0_init 19 = .ok (.dup, 1) := by decide +kernel
theorem dX0_init_20 : decode cX0_init 20 = .ok (.invokespecial 11, 3) := by decide +kernel
theorem dX0_init_23 : decode cX0_init 23 = .ok (.putfield 18, 3) := by decide +kernel
theorem dX0_init_26 : decode cX0_init 26 = .ok (.return_, 1) := by decide +kernel
theorem dX0_countTaken_0 : decode cX0_countTaken 0 = .ok (.aload_n 0, 1) := by decide +kernel
theorem dX0_countTaken_1 : decode cX0_countTaken 1 = .ok (.getfield 12, 3) := by decide +kernel
theorem dX0_countTaken_4 : decode cX0_countTaken 4 = .ok (.invokevirtual 21, 3) := by decide +kernel
theorem dX0_countTaken_7 : decode cX0_countTaken 7 = .ok (.ireturn, 1) := by decide +kernel
theorem dX0_countKept_0 : decode cX0_countKept 0 = .ok (.aload_n 0, 1) := by decide +kernel
theorem dX0_countKept_1 : decode cX0_countKept 1 = .ok (.getfield 18, 3) := by decide +kernel
theorem dX0_countKept_4 : decode cX0_countKept 4 = .ok (.invokevirtual 21, 3) := by decide +kernel
theorem dX0_countKept_7 : decode cX0_countKept 7 = .ok (.ireturn, 1) := by decide +kernel
theorem dX0_take_0 : decode cX0_take 0 = .ok (.aload_n 0, 1) := by decide +kernel
theorem dX0_take_1 : decode cX0_take 1 = .ok (.getfield 12, 3) := by decide +kernel
theorem dX0_take_4 : decode cX0_take 4 = .ok (.invokevirtual 21, 3) := by decide +kernel
theorem dX0_take_7 : decode cX0_take 7 = .ok (.sipush 300, 3) := by decide +kernel
theorem dX0_take_10 : decode cX0_take 10 = .ok (.if_icmp .ge 13, 3) := by decide +kernel
theorem dX0_take_13 : decode cX0_take 13 = .ok (.aload_n 0, 1) := by decide +kernel
theorem dX0_take_14 : decode cX0_take 14 = .ok (.iload_n 1, 1) := by decide +kernel
theorem dX0_take_15 : decode cX0_take 15 = .ok (.iload_n 2, 1) := by decide +kernel
theorem dX0_take_16 : decode cX0_take 16 = .ok (.iload_n 3, 1) := by decide +kernel
theorem dX0_take_17 : decode cX0_take 17 = .ok (.invokevirtual 25, 3) := by decide +kernel
theorem dX0_take_20 : decode cX0_take 20 = .ok (.ifCond .eq 4, 3) := by decide +kernel
theorem dX0_take_23 : decode cX0_take 23 = .ok (.return_, 1) := by decide +kernel
theorem dX0_take_24 : decode cX0_take 24 = .ok (.new 29, 3) := by decide +kernel
theorem dX0_take_27 : decode cX0_take 27 = .ok (.dup, 1) := by decide +kernel
theorem dX0_take_28 : decode cX0_take 28 = .ok (.iload_n 1, 1) := by decide +kernel
theorem dX0_take_29 : decode cX0_take 29 = .ok (.iload_n 2, 1) := by decide +kernel
theorem dX0_take_30 : decode cX0_take 30 = .ok (.iload_n 3, 1) := by decide +kernel
theorem dX0_take_31 : decode cX0_take 31 = .ok (.iload 4, 2) := by decide +kernel
theorem dX0_take_33 : decode cX0_take 33 = .ok (.invokespecial 31, 3) := by decide +kernel
theorem dX0_take_36 : decode cX0_take 36 = .ok (.astore 5, 2) := by decide +kernel
theorem dX0_take_38 : decode cX0_take 38 = .ok (.aload_n 0, 1) := by decide +kernel
theorem dX0_take_39 : decode cX0_take 39 = .ok (.getfield 12, 3) := by decide +kernel
theorem dX0_take_42 : decode cX0_take 42 = .ok (.aload 5, 2) := by decide +kernel
theorem dX0_take_44 : decode cX0_take 44 = .ok (.invokevirtual 34, 3) := by decide +kernel
theorem dX0_take_47 : decode cX0_take 47 = .ok (.pop, 1) := by decide +kernel
theorem dX0_take_48 : decode cX0_take 48 = .ok (.aload_n 0, 1) := by decide +kernel
theorem dX0_take_49 : decode cX0_take 49 = .ok (.getfield 18, 3) := by decide +kernel
theorem dX0_take_52 : decode cX0_take 52 = .ok (.aload 5, 2) := by decide +kernel
theorem dX0_take_54 : decode cX0_take 54 = .ok (.invokevirtual 34, 3) := by decide +kernel
theorem dX0_take_57 : decode cX0_take 57 = .ok (.pop, 1) := by decide +kernel
theorem dX0_take_58 : decode cX0_take 58 = .ok (.return_, 1) := by decide +kernel
theorem dX0_keeps_0 : decode cX0_keeps 0 = .ok (.iconst 0, 1) := by decide +kernel
theorem dX0_keeps_1 : decode cX0_keeps 1 = .ok (.istore 4, 2) := by decide +kernel
theorem dX0_keeps_3 : decode cX0_keeps 3 = .ok (.iload 4, 2) := by decide +kernel
theorem dX0_keeps_5 : decode cX0_keeps 5 = .ok (.aload_n 0, 1) := by decide +kernel
theorem dX0_keeps_6 : decode cX0_keeps 6 = .ok (.getfield 18, 3) := by decide +kernel
theorem dX0_keeps_9 : decode cX0_keeps 9 = .ok (.invokevirtual 21, 3) := by decide +kernel
theorem dX0_keeps_12 : decode cX0_keeps 12 = .ok (.if_icmp .ge 32, 3) := by decide +kernel
theorem dX0_keeps_15 : decode cX0_keeps 15 = .ok (.aload_n 0, 1) := by decide +kernel
theorem dX0_keeps_16 : decode cX0_keeps 16 = .ok (.getfield 18, 3) := by decide +kernel
theorem dX0_keeps_19 : decode cX0_keeps 19 = .ok (.iload 4, 2) := by decide +kernel
theorem dX0_keeps_21 : decode cX0_keeps 21 = .ok (.invokevirtual 38, 3) := by decide +kernel
theorem dX0_keeps_24 : decode cX0_keeps 24 = .ok (.checkcast 29, 3) := by decide +kernel
theorem dX0_keeps_27 : decode cX0_keeps 27 = .ok (.iload_n 1, 1) := by decide +kernel
theorem dX0_keeps_28 : decode cX0_keeps 28 = .ok (.iload_n 2, 1) := by decide +kernel
theorem dX0_keeps_29 : decode cX0_keeps 29 = .ok (.iload_n 3, 1) := by decide +kernel
theorem dX0_keeps_30 : decode cX0_keeps 30 = .ok (.invokevirtual 42, 3) := by decide +kernel
theorem dX0_keeps_33 : decode cX0_keeps 33 = .ok (.ifCond .eq 5, 3) := by decide +kernel
theorem dX0_keeps_36 : decode cX0_keeps 36 = .ok (.iconst 1, 1) := by decide +kernel
theorem dX0_keeps_37 : decode cX0_keeps 37 = .ok (.ireturn, 1) := by decide +kernel
theorem dX0_keeps_38 : decode cX0_keeps 38 = .ok (.iinc 4 1, 3) := by decide +kernel
theorem dX0_keeps_41 : decode cX0_keeps 41 = .ok (.goto (-38), 3) := by decide +kernel
theorem dX0_keeps_44 : decode cX0_keeps 44 = .ok (.iconst 0, 1) := by decide +kernel
theorem dX0_keeps_45 : decode cX0_keeps 45 = .ok (.ireturn, 1) := by decide +kernel
theorem dX0_papersTell_0 : decode cX0_papersTell 0 = .ok (.iconst 0, 1) := by decide +kernel
theorem dX0_papersTell_1 : decode cX0_papersTell 1 = .ok (.istore 5, 2) := by decide +kernel
theorem dX0_papersTell_3 : decode cX0_papersTell 3 = .ok (.iload 5, 2) := by decide +kernel
theorem dX0_papersTell_5 : decode cX0_papersTell 5 = .ok (.aload_n 0, 1) := by decide +kernel
theorem dX0_papersTell_6 : decode cX0_papersTell 6 = .ok (.getfield 12, 3) := by decide +kernel
theorem dX0_papersTell_9 : decode cX0_papersTell 9 = .ok (.invokevirtual 21, 3) := by decide +kernel
theorem dX0_papersTell_12 : decode cX0_papersTell 12 = .ok (.if_icmp .ge 46, 3) := by decide +kernel
theorem dX0_papersTell_15 : decode cX0_papersTell 15 = .ok (.aload_n 0, 1) := by decide +kernel
theorem dX0_papersTell_16 : decode cX0_papersTell 16 = .ok (.getfield 12, 3) := by decide +kernel
theorem dX0_papersTell_19 : decode cX0_papersTell 19 = .ok (.iload 5, 2) := by decide +kernel
theorem dX0_papersTell_21 : decode cX0_papersTell 21 = .ok (.invokevirtual 38, 3) := by decide +kernel
theorem dX0_papersTell_24 : decode cX0_papersTell 24 = .ok (.checkcast 29, 3) := by decide +kernel
theorem dX0_papersTell_27 : decode cX0_papersTell 27 = .ok (.astore 6, 2) := by decide +kernel
theorem dX0_papersTell_29 : decode cX0_papersTell 29 = .ok (.aload 6, 2) := by decide +kernel
theorem dX0_papersTell_31 : decode cX0_papersTell 31 = .ok (.iload_n 1, 1) := by decide +kernel
theorem dX0_papersTell_32 : decode cX0_papersTell 32 = .ok (.iload_n 2, 1) := by decide +kernel
theorem dX0_papersTell_33 : decode cX0_papersTell 33 = .ok (.iload_n 3, 1) := by decide +kernel
theorem dX0_papersTell_34 : decode cX0_papersTell 34 = .ok (.invokevirtual 42, 3) := by decide +kernel
theorem dX0_papersTell_37 : decode cX0_papersTell 37 = .ok (.ifCond .eq 15, 3) := by decide +kernel
theorem dX0_papersTell_40 : decode cX0_papersTell 40 = .ok (.aload 6, 2) := by decide +kernel
theorem dX0_papersTell_42 : decode cX0_papersTell 42 = .ok (.getfield 45, 3) := by decide +kernel
theorem dX0_papersTell_45 : decode cX0_papersTell 45 = .ok (.iload 4, 2) := by decide +kernel
theorem dX0_papersTell_47 : decode cX0_papersTell 47 = .ok (.if_icmp .le 5, 3) := by decide +kernel
theorem dX0_papersTell_50 : decode cX0_papersTell 50 = .ok (.iconst 1, 1) := by decide +kernel
theorem dX0_papersTell_51 : decode cX0_papersTell 51 = .ok (.ireturn, 1) := by decide +kernel
theorem dX0_papersTell_52 : decode cX0_papersTell 52 = .ok (.iinc 5 1, 3) := by decide +kernel
theorem dX0_papersTell_55 : decode cX0_papersTell 55 = .ok (.goto (-52), 3) := by decide +kernel
theorem dX0_papersTell_58 : decode cX0_papersTell 58 = .ok (.iconst 0, 1) := by decide +kernel
theorem dX0_papersTell_59 : decode cX0_papersTell 59 = .ok (.ireturn, 1) := by decide +kernel
theorem dX0_eraseDue_0 : decode cX0_eraseDue 0 = .ok (.iconst 0, 1) := by decide +kernel
theorem dX0_eraseDue_1 : decode cX0_eraseDue 1 = .ok (.istore_n 2, 1) := by decide +kernel
theorem dX0_eraseDue_2 : decode cX0_eraseDue 2 = .ok (.aload_n 0, 1) := by decide +kernel
theorem dX0_eraseDue_3 : decode cX0_eraseDue 3 = .ok (.getfield 18, 3) := by decide +kernel
theorem dX0_eraseDue_6 : decode cX0_eraseDue 6 = .ok (.invokevirtual 21, 3) := by decide +kernel
theorem dX0_eraseDue_9 : decode cX0_eraseDue 9 = .ok (.iconst 1, 1) := by decide +kernel
theorem dX0_eraseDue_10 : decode cX0_eraseDue 10 = .ok (.isub, 1) := by decide +kernel
theorem dX0_eraseDue_11 : decode cX0_eraseDue 11 = .ok (.istore_n 3, 1) := by decide +kernel
theorem dX0_eraseDue_12 : decode cX0_eraseDue 12 = .ok (.iload_n 3, 1) := by decide +kernel
theorem dX0_eraseDue_13 : decode cX0_eraseDue 13 = .ok (.ifCond .lt 39, 3) := by decide +kernel
theorem dX0_eraseDue_16 : decode cX0_eraseDue 16 = .ok (.aload_n 0, 1) := by decide +kernel
theorem dX0_eraseDue_17 : decode cX0_eraseDue 17 = .ok (.getfield 18, 3) := by decide +kernel
theorem dX0_eraseDue_20 : decode cX0_eraseDue 20 = .ok (.iload_n 3, 1) := by decide +kernel
theorem dX0_eraseDue_21 : decode cX0_eraseDue 21 = .ok (.invokevirtual 38, 3) := by decide +kernel
theorem dX0_eraseDue_24 : decode cX0_eraseDue 24 = .ok (.checkcast 29, 3) := by decide +kernel
theorem dX0_eraseDue_27 : decode cX0_eraseDue 27 = .ok (.getfield 45, 3) := by decide +kernel
theorem dX0_eraseDue_30 : decode cX0_eraseDue 30 = .ok (.iload_n 1, 1) := by decide +kernel
theorem dX0_eraseDue_31 : decode cX0_eraseDue 31 = .ok (.if_icmp .gt 15, 3) := by decide +kernel
theorem dX0_eraseDue_34 : decode cX0_eraseDue 34 = .ok (.aload_n 0, 1) := by decide +kernel
theorem dX0_eraseDue_35 : decode cX0_eraseDue 35 = .ok (.getfield 18, 3) := by decide +kernel
theorem dX0_eraseDue_38 : decode cX0_eraseDue 38 = .ok (.iload_n 3, 1) := by decide +kernel
theorem dX0_eraseDue_39 : decode cX0_eraseDue 39 = .ok (.invokevirtual 49, 3) := by decide +kernel
theorem dX0_eraseDue_42 : decode cX0_eraseDue 42 = .ok (.pop, 1) := by decide +kernel
theorem dX0_eraseDue_43 : decode cX0_eraseDue 43 = .ok (.iinc 2 1, 3) := by decide +kernel
theorem dX0_eraseDue_46 : decode cX0_eraseDue 46 = .ok (.iinc 3 (-1), 3) := by decide +kernel
theorem dX0_eraseDue_49 : decode cX0_eraseDue 49 = .ok (.goto (-37), 3) := by decide +kernel
theorem dX0_eraseDue_52 : decode cX0_eraseDue 52 = .ok (.iload_n 2, 1) := by decide +kernel
theorem dX0_eraseDue_53 : decode cX0_eraseDue 53 = .ok (.ireturn, 1) := by decide +kernel
theorem dX1_init_0 : decode cX1_init 0 = .ok (.aload_n 0, 1) := by decide +kernel
theorem dX1_init_1 : decode cX1_init 1 = .ok (.invokespecial 3, 3) := by decide +kernel
theorem dX1_init_4 : decode cX1_init 4 = .ok (.aload_n 0, 1) := by decide +kernel
theorem dX1_init_5 : decode cX1_init 5 = .ok (.iconst 0, 1) := by decide +kernel
theorem dX1_init_6 : decode cX1_init 6 = .ok (.putfield 9, 3) := by decide +kernel
theorem dX1_init_9 : decode cX1_init 9 = .ok (.aload_n 0, 1) := by decide +kernel
theorem dX1_init_10 : decode cX1_init 10 = .ok (.bipush 50, 2) := by decide +kernel
theorem dX1_init_12 : decode cX1_init 12 = .ok (.putfield 15, 3) := by decide +kernel
theorem dX1_init_15 : decode cX1_init 15 = .ok (.aload_n 0, 1) := by decide +kernel
theorem dX1_init_16 : decode cX1_init 16 = .ok (.iconst 1, 1) := by decide +kernel
theorem dX1_init_17 : decode cX1_init 17 = .ok (.putfield 18, 3) := by decide +kernel
theorem dX1_init_20 : decode cX1_init 20 = .ok (.aload_n 0, 1) := by decide +kernel
theorem dX1_init_21 : decode cX1_init 21 = .ok (.iload_n 1, 1) := by decide +kernel
theorem dX1_init_22 : decode cX1_init 22 = .ok (.putfield 22, 3) := by decide +kernel
theorem dX1_init_25 : decode cX1_init 25 = .ok (.return_, 1) := by decide +kernel
theorem dX2_init_0 : decode cX2_init 0 = .ok (.aload_n 0, 1) := by decide +kernel
theorem dX2_init_1 : decode cX2_init 1 = .ok (.invokespecial 1, 3) := by decide +kernel
theorem dX2_init_4 : decode cX2_init 4 = .ok (.aload_n 0, 1) := by decide +kernel
theorem dX2_init_5 : decode cX2_init 5 = .ok (.iload_n 1, 1) := by decide +kernel
theorem dX2_init_6 : decode cX2_init 6 = .ok (.putfield 7, 3) := by decide +kernel
theorem dX2_init_9 : decode cX2_init 9 = .ok (.aload_n 0, 1) := by decide +kernel
theorem dX2_init_10 : decode cX2_init 10 = .ok (.iload_n 2, 1) := by decide +kernel
theorem dX2_init_11 : decode cX2_init 11 = .ok (.putfield 13, 3) := by decide +kernel
theorem dX2_init_14 : decode cX2_init 14 = .ok (.aload_n 0, 1) := by decide +kernel
theorem dX2_init_15 : decode cX2_init 15 = .ok (.iload_n 3, 1) := by decide +kernel
theorem dX2_init_16 : decode cX2_init 16 = .ok (.putfield 16, 3) := by decide +kernel
theorem dX2_init_19 : decode cX2_init 19 = .ok (.aload_n 0, 1) := by decide +kernel
theorem dX2_init_20 : decode cX2_init 20 = .ok (.iload 4, 2) := by decide +kernel
theorem dX2_init_22 : decode cX2_init 22 = .ok (.putfield 19, 3) := by decide +kernel
theorem dX2_init_25 : decode cX2_init 25 = .ok (.return_, 1) := by decide +kernel
theorem dX2_isOf_0 : decode cX2_isOf 0 = .ok (.aload_n 0, 1) := by decide +kernel
theorem dX2_isOf_1 : decode cX2_isOf 1 = .ok (.getfield 7, 3) := by decide +kernel
theorem dX2_isOf_4 : decode cX2_isOf 4 = .ok (.iload_n 1, 1) := by decide +kernel
theorem dX2_isOf_5 : decode cX2_isOf 5 = .ok (.if_icmp .ne 23, 3) := by decide +kernel
theorem dX2_isOf_8 : decode cX2_isOf 8 = .ok (.aload_n 0, 1) := by decide +kernel
theorem dX2_isOf_9 : decode cX2_isOf 9 = .ok (.getfield 13, 3) := by decide +kernel
theorem dX2_isOf_12 : decode cX2_isOf 12 = .ok (.iload_n 2, 1) := by decide +kernel
theorem dX2_isOf_13 : decode cX2_isOf 13 = .ok (.if_icmp .ne 15, 3) := by decide +kernel
theorem dX2_isOf_16 : decode cX2_isOf 16 = .ok (.aload_n 0, 1) := by decide +kernel
theorem dX2_isOf_17 : decode cX2_isOf 17 = .ok (.getfield 16, 3) := by decide +kernel
theorem dX2_isOf_20 : decode cX2_isOf 20 = .ok (.iload_n 3, 1) := by decide +kernel
theorem dX2_isOf_21 : decode cX2_isOf 21 = .ok (.if_icmp .ne 7, 3) := by decide +kernel
theorem dX2_isOf_24 : decode cX2_isOf 24 = .ok (.iconst 1, 1) := by decide +kernel
theorem dX2_isOf_25 : decode cX2_isOf 25 = .ok (.goto 4, 3) := by decide +kernel
theorem dX2_isOf_28 : decode cX2_isOf 28 = .ok (.iconst 0, 1) := by decide +kernel
theorem dX2_isOf_29 : decode cX2_isOf 29 = .ok (.ireturn, 1) := by decide +kernel
theorem dX3_init_0 : decode cX3_init 0 = .ok (.aload_n 0, 1) := by decide +kernel
theorem dX3_init_1 : decode cX3_init 1 = .ok (.invokespecial 3, 3) := by decide +kernel
theorem dX3_init_4 : decode cX3_init 4 = .ok (.aload_n 0, 1) := by decide +kernel
theorem dX3_init_5 : decode cX3_init 5 = .ok (.iconst 0, 1) := by decide +kernel
theorem dX3_init_6 : decode cX3_init 6 = .ok (.putfield 9, 3) := by decide +kernel
theorem dX3_init_9 : decode cX3_init 9 = .ok (.aload_n 0, 1) := by decide +kernel
theorem dX3_init_10 : decode cX3_init 10 = .ok (.iconst 1, 1) := by decide +kernel
theorem dX3_init_11 : decode cX3_init 11 = .ok (.putfield 15, 3) := by decide +kernel
theorem dX3_init_14 : decode cX3_init 14 = .ok (.aload_n 0, 1) := by decide +kernel
theorem dX3_init_15 : decode cX3_init 15 = .ok (.iconst 0, 1) := by decide +kernel
theorem dX3_init_16 : decode cX3_init 16 = .ok (.putfield 18, 3) := by decide +kernel
theorem dX3_init_19 : decode cX3_init 19 = .ok (.aload_n 0, 1) := by decide +kernel
theorem dX3_init_20 : decode cX3_init 20 = .ok (.iconst 3, 1) := by decide +kernel
theorem dX3_init_21 : decode cX3_init 21 = .ok (.newarray .int, 2) := by decide +kernel
theorem dX3_init_23 : decode cX3_init 23 = .ok (.putfield 22, 3) := by decide +kernel
theorem dX3_init_26 : decode cX3_init 26 = .ok (.iconst 0, 1) := by decide +kernel
theorem dX3_init_27 : decode cX3_init 27 = .ok (.istore_n 1, 1) := by decide +kernel
theorem dX3_init_28 : decode cX3_init 28 = .ok (.iload_n 1, 1) := by decide +kernel
theorem dX3_init_29 : decode cX3_init 29 = .ok (.aload_n 0, 1) := by decide +kernel
theorem dX3_init_30 : decode cX3_init 30 = .ok (.getfield 22, 3) := by decide +kernel
theorem dX3_init_33 : decode cX3_init 33 = .ok (.arraylength, 1) := by decide +kernel
theorem dX3_init_34 : decode cX3_init 34 = .ok (.if_icmp .ge 17, 3) := by decide +kernel
theorem dX3_init_37 : decode cX3_init 37 = .ok (.aload_n 0, 1) := by decide +kernel
theorem dX3_init_38 : decode cX3_init 38 = .ok (.getfield 22, 3) := by decide +kernel
theorem dX3_init_41 : decode cX3_init 41 = .ok (.iload_n 1, 1) := by decide +kernel
theorem dX3_init_42 : decode cX3_init 42 = .ok (.bipush 7, 2) := by decide +kernel
theorem dX3_init_44 : decode cX3_init 44 = .ok (.iastore, 1) := by decide +kernel
theorem dX3_init_45 : decode cX3_init 45 = .ok (.iinc 1 1, 3) := by decide +kernel
theorem dX3_init_48 : decode cX3_init 48 = .ok (.goto (-20), 3) := by decide +kernel
theorem dX3_init_51 : decode cX3_init 51 = .ok (.return_, 1) := by decide +kernel
theorem dX3_setVote_0 : decode cX3_setVote 0 = .ok (.iload_n 1, 1) := by decide +kernel
theorem dX3_setVote_1 : decode cX3_setVote 1 = .ok (.ifCond .lt 19, 3) := by decide +kernel
theorem dX3_setVote_4 : decode cX3_setVote 4 = .ok (.iload_n 1, 1) := by decide +kernel
theorem dX3_setVote_5 : decode cX3_setVote 5 = .ok (.aload_n 0, 1) := by decide +kernel
theorem dX3_setVote_6 : decode cX3_setVote 6 = .ok (.getfield 22, 3) := by decide +kernel
theorem dX3_setVote_9 : decode cX3_setVote 9 = .ok (.arraylength, 1) := by decide +kernel
theorem dX3_setVote_10 : decode cX3_setVote 10 = .ok (.if_icmp .ge 10, 3) := by decide +kernel
theorem dX3_setVote_13 : decode cX3_setVote 13 = .ok (.aload_n 0, 1) := by decide +kernel
theorem dX3_setVote_14 : decode cX3_setVote 14 = .ok (.getfield 22, 3) := by decide +kernel
theorem dX3_setVote_17 : decode cX3_setVote 17 = .ok (.iload_n 1, 1) := by decide +kernel
theorem dX3_setVote_18 : decode cX3_setVote 18 = .ok (.iload_n 2, 1) := by decide +kernel
theorem dX3_setVote_19 : decode cX3_setVote 19 = .ok (.iastore, 1) := by decide +kernel
theorem dX3_setVote_20 : decode cX3_setVote 20 = .ok (.return_, 1) := by decide +kernel
theorem dX3_daysKept_0 : decode cX3_daysKept 0 = .ok (.iconst 0, 1) := by decide +kernel
theorem dX3_daysKept_1 : decode cX3_daysKept 1 = .ok (.istore_n 1, 1) := by decide +kernel
theorem dX3_daysKept_2 : decode cX3_daysKept 2 = .ok (.bipush 30, 2) := by decide +kernel
theorem dX3_daysKept_4 : decode cX3_daysKept 4 = .ok (.istore_n 2, 1) := by decide +kernel
theorem dX3_daysKept_5 : decode cX3_daysKept 5 = .ok (.iconst 1, 1) := by decide +kernel
theorem dX3_daysKept_6 : decode cX3_daysKept 6 = .ok (.istore_n 3, 1) := by decide +kernel
theorem dX3_daysKept_7 : decode cX3_daysKept 7 = .ok (.aload_n 0, 1) := by decide +kernel
theorem dX3_daysKept_8 : decode cX3_daysKept 8 = .ok (.getfield 22, 3) := by decide +kernel
theorem dX3_daysKept_11 : decode cX3_daysKept 11 = .ok (.astore 4, 2) := by decide +kernel
theorem dX3_daysKept_13 : decode cX3_daysKept 13 = .ok (.aload 4, 2) := by decide +kernel
theorem dX3_daysKept_15 : decode cX3_daysKept 15 = .ok (.arraylength, 1) := by decide +kernel
theorem dX3_daysKept_16 : decode cX3_daysKept 16 = .ok (.istore 5, 2) := by decide +kernel
theorem dX3_daysKept_18 : decode cX3_daysKept 18 = .ok (.iconst 0, 1) := by decide +kernel
theorem dX3_daysKept_19 : decode cX3_daysKept 19 = .ok (.istore 6, 2) := by decide +kernel
theorem dX3_daysKept_21 : decode cX3_daysKept 21 = .ok (.iload 6, 2) := by decide +kernel
theorem dX3_daysKept_23 : decode cX3_daysKept 23 = .ok (.iload 5, 2) := by decide +kernel
theorem dX3_daysKept_25 : decode cX3_daysKept 25 = .ok (.if_icmp .ge 35, 3) := by decide +kernel
theorem dX3_daysKept_28 : decode cX3_daysKept 28 = .ok (.aload 4, 2) := by decide +kernel
theorem dX3_daysKept_30 : decode cX3_daysKept 30 = .ok (.iload 6, 2) := by decide +kernel
theorem dX3_daysKept_32 : decode cX3_daysKept 32 = .ok (.iaload, 1) := by decide +kernel
theorem dX3_daysKept_33 : decode cX3_daysKept 33 = .ok (.istore 7, 2) := by decide +kernel
theorem dX3_daysKept_35 : decode cX3_daysKept 35 = .ok (.iload_n 1, 1) := by decide +kernel
theorem dX3_daysKept_36 : decode cX3_daysKept 36 = .ok (.iload 7, 2) := by decide +kernel
theorem dX3_daysKept_38 : decode cX3_daysKept 38 = .ok (.iadd, 1) := by decide +kernel
theorem dX3_daysKept_39 : decode cX3_daysKept 39 = .ok (.istore_n 1, 1) := by decide +kernel
theorem dX3_daysKept_40 : decode cX3_daysKept 40 = .ok (.iload_n 2, 1) := by decide +kernel
theorem dX3_daysKept_41 : decode cX3_daysKept 41 = .ok (.iload 7, 2) := by decide +kernel
theorem dX3_daysKept_43 : decode cX3_daysKept 43 = .ok (.invokestatic 26, 3) := by decide +kernel
theorem dX3_daysKept_46 : decode cX3_daysKept 46 = .ok (.istore_n 2, 1) := by decide +kernel
theorem dX3_daysKept_47 : decode cX3_daysKept 47 = .ok (.iload_n 3, 1) := by decide +kernel
theorem dX3_daysKept_48 : decode cX3_daysKept 48 = .ok (.iload 7, 2) := by decide +kernel
theorem dX3_daysKept_50 : decode cX3_daysKept 50 = .ok (.invokestatic 32, 3) := by decide +kernel
theorem dX3_daysKept_53 : decode cX3_daysKept 53 = .ok (.istore_n 3, 1) := by decide +kernel
theorem dX3_daysKept_54 : decode cX3_daysKept 54 = .ok (.iinc 6 1, 3) := by decide +kernel
theorem dX3_daysKept_57 : decode cX3_daysKept 57 = .ok (.goto (-36), 3) := by decide +kernel
theorem dX3_daysKept_60 : decode cX3_daysKept 60 = .ok (.iload_n 1, 1) := by decide +kernel
theorem dX3_daysKept_61 : decode cX3_daysKept 61 = .ok (.iload_n 2, 1) := by decide +kernel
theorem dX3_daysKept_62 : decode cX3_daysKept 62 = .ok (.isub, 1) := by decide +kernel
theorem dX3_daysKept_63 : decode cX3_daysKept 63 = .ok (.iload_n 3, 1) := by decide +kernel
theorem dX3_daysKept_64 : decode cX3_daysKept 64 = .ok (.isub, 1) := by decide +kernel
theorem dX3_daysKept_65 : decode cX3_daysKept 65 = .ok (.ireturn, 1) := by decide +kernel
theorem dX4_init_0 : decode cX4_init 0 = .ok (.aload_n 0, 1) := by decide +kernel
theorem dX4_init_1 : decode cX4_init 1 = .ok (.invokespecial 3, 3) := by decide +kernel
theorem dX4_init_4 : decode cX4_init 4 = .ok (.aload_n 0, 1) := by decide +kernel
theorem dX4_init_5 : decode cX4_init 5 = .ok (.iconst 0, 1) := by decide +kernel
theorem dX4_init_6 : decode cX4_init 6 = .ok (.putfield 9, 3) := by decide +kernel
theorem dX4_init_9 : decode cX4_init 9 = .ok (.aload_n 0, 1) := by decide +kernel
theorem dX4_init_10 : decode cX4_init 10 = .ok (.aconst_null, 1) := by decide +kernel
theorem dX4_init_11 : decode cX4_init 11 = .ok (.putfield 15, 3) := by decide +kernel
theorem dX4_init_14 : decode cX4_init 14 = .ok (.aload_n 0, 1) := by decide +kernel
theorem dX4_init_15 : decode cX4_init 15 = .ok (.iconst 0, 1) := by decide +kernel
theorem dX4_init_16 : decode cX4_init 16 = .ok (.putfield 19, 3) := by decide +kernel
theorem dX4_init_19 : decode cX4_init 19 = .ok (.aload_n 0, 1) := by decide +kernel
theorem dX4_init_20 : decode cX4_init 20 = .ok (.iconst 0, 1) := by decide +kernel
theorem dX4_init_21 : decode cX4_init 21 = .ok (.putfield 22, 3) := by decide +kernel
theorem dX4_init_24 : decode cX4_init 24 = .ok (.aload_n 0, 1) := by decide +kernel
theorem dX4_init_25 : decode cX4_init 25 = .ok (.iload_n 1, 1) := by decide +kernel
theorem dX4_init_26 : decode cX4_init 26 = .ok (.putfield 26, 3) := by decide +kernel
theorem dX4_init_29 : decode cX4_init 29 = .ok (.aload_n 0, 1) := by decide +kernel
theorem dX4_init_30 : decode cX4_init 30 = .ok (.iload_n 2, 1) := by decide +kernel
theorem dX4_init_31 : decode cX4_init 31 = .ok (.putfield 29, 3) := by decide +kernel
theorem dX4_init_34 : decode cX4_init 34 = .ok (.aload_n 0, 1) := by decide +kernel
theorem dX4_init_35 : decode cX4_init 35 = .ok (.iload_n 3, 1) := by decide +kernel
theorem dX4_init_36 : decode cX4_init 36 = .ok (.putfield 32, 3) := by decide +kernel
theorem dX4_init_39 : decode cX4_init 39 = .ok (.return_, 1) := by decide +kernel
theorem dX5_init_0 : decode cX5_init 0 = .ok (.aload_n 0, 1) := by decide +kernel
theorem dX5_init_1 : decode cX5_init 1 = .ok (.invokespecial 1, 3) := by decide +kernel
theorem dX5_init_4 : decode cX5_init 4 = .ok (.aload_n 0, 1) := by decide +kernel
theorem dX5_init_5 : decode cX5_init 5 = .ok (.bipush 8, 2) := by decide +kernel
theorem dX5_init_7 : decode cX5_init 7 = .ok (.anewarray 9, 3) := by decide +kernel
theorem dX5_init_10 : decode cX5_init 10 = .ok (.putfield 11, 3) := by decide +kernel
theorem dX5_init_13 : decode cX5_init 13 = .ok (.aload_n 0, 1) := by decide +kernel
theorem dX5_init_14 : decode cX5_init 14 = .ok (.iconst 4, 1) := by decide +kernel
theorem dX5_init_15 : decode cX5_init 15 = .ok (.anewarray 15, 3) := by decide +kernel
theorem dX5_init_18 : decode cX5_init 18 = .ok (.putfield 17, 3) := by decide +kernel
theorem dX5_init_21 : decode cX5_init 21 = .ok (.aload_n 0, 1) := by decide +kernel
theorem dX5_init_22 : decode cX5_init 22 = .ok (.new 21, 3) := by decide +kernel
theorem dX5_init_25 : decode cX5_init 25 = .ok (.dup, 1) := by decide +kernel
theorem dX5_init_26 : decode cX5_init 26 = .ok (.invokespecial 23, 3) := by decide +kernel
theorem dX5_init_29 : decode cX5_init 29 = .ok (.putfield 24, 3) := by decide +kernel
theorem dX5_init_32 : decode cX5_init 32 = .ok (.aload_n 0, 1) := by decide +kernel
theorem dX5_init_33 : decode cX5_init 33 = .ok (.new 28, 3) := by decide +kernel
theorem dX5_init_36 : decode cX5_init 36 = .ok (.dup, 1) := by decide +kernel
theorem dX5_init_37 : decode cX5_init 37 = .ok (.invokespecial 30, 3) := by decide +kernel
theorem dX5_init_40 : decode cX5_init 40 = .ok (.putfield 31, 3) := by decide +kernel
theorem dX5_init_43 : decode cX5_init 43 = .ok (.aload_n 0, 1) := by decide +kernel
theorem dX5_init_44 : decode cX5_init 44 = .ok (.iconst 0, 1) := by decide +kernel
theorem dX5_init_45 : decode cX5_init 45 = .ok (.putfield 35, 3) := by decide +kernel
theorem dX5_init_48 : decode cX5_init 48 = .ok (.aload_n 0, 1) := by decide +kernel
theorem dX5_init_49 : decode cX5_init 49 = .ok (.iconst 0, 1) := by decide +kernel
theorem dX5_init_50 : decode cX5_init 50 = .ok (.putfield 39, 3) := by decide +kernel
theorem dX5_init_53 : decode cX5_init 53 = .ok (.iconst 0, 1) := by decide +kernel
theorem dX5_init_54 : decode cX5_init 54 = .ok (.istore_n 1, 1) := by decide +kernel
theorem dX5_init_55 : decode cX5_init 55 = .ok (.iload_n 1, 1) := by decide +kernel
theorem dX5_init_56 : decode cX5_init 56 = .ok (.aload_n 0, 1) := by decide +kernel
theorem dX5_init_57 : decode cX5_init 57 = .ok (.getfield 11, 3) := by decide +kernel
theorem dX5_init_60 : decode cX5_init 60 = .ok (.arraylength, 1) := by decide +kernel
theorem dX5_init_61 : decode cX5_init 61 = .ok (.if_icmp .ge 22, 3) := by decide +kernel
theorem dX5_init_64 : decode cX5_init 64 = .ok (.aload_n 0, 1) := by decide +kernel
theorem dX5_init_65 : decode cX5_init 65 = .ok (.getfield 11, 3) := by decide +kernel
theorem dX5_init_68 : decode cX5_init 68 = .ok (.iload_n 1, 1) := by decide +kernel
theorem dX5_init_69 : decode cX5_init 69 = .ok (.new 9, 3) := by decide +kernel
theorem dX5_init_72 : decode cX5_init 72 = .ok (.dup, 1) := by decide +kernel
theorem dX5_init_73 : decode cX5_init 73 = .ok (.invokespecial 42, 3) := by decide +kernel
theorem dX5_init_76 : decode cX5_init 76 = .ok (.aastore, 1) := by decide +kernel
theorem dX5_init_77 : decode cX5_init 77 = .ok (.iinc 1 1, 3) := by decide +kernel
theorem dX5_init_80 : decode cX5_init 80 = .ok (.goto (-25), 3) := by decide +kernel
theorem dX5_init_83 : decode cX5_init 83 = .ok (.iconst 0, 1) := by decide +kernel
theorem dX5_init_84 : decode cX5_init 84 = .ok (.istore_n 1, 1) := by decide +kernel
theorem dX5_init_85 : decode cX5_init 85 = .ok (.iload_n 1, 1) := by decide +kernel
theorem dX5_init_86 : decode cX5_init 86 = .ok (.aload_n 0, 1) := by decide +kernel
theorem dX5_init_87 : decode cX5_init 87 = .ok (.getfield 17, 3) := by decide +kernel
theorem dX5_init_90 : decode cX5_init 90 = .ok (.arraylength, 1) := by decide +kernel
theorem dX5_init_91 : decode cX5_init 91 = .ok (.if_icmp .ge 23, 3) := by decide +kernel
theorem dX5_init_94 : decode cX5_init 94 = .ok (.aload_n 0, 1) := by decide +kernel
theorem dX5_init_95 : decode cX5_init 95 = .ok (.getfield 17, 3) := by decide +kernel
theorem dX5_init_98 : decode cX5_init 98 = .ok (.iload_n 1, 1) := by decide +kernel
theorem dX5_init_99 : decode cX5_init 99 = .ok (.new 15, 3) := by decide +kernel
theorem dX5_init_102 : decode cX5_init 102 = .ok (.dup, 1) := by decide +kernel
theorem dX5_init_103 : decode cX5_init 103 = .ok (.iload_n 1, 1) := by decide +kernel
theorem dX5_init_104 : decode cX5_init 104 = .ok (.invokespecial 43, 3) := by decide +kernel
theorem dX5_init_107 : decode cX5_init 107 = .ok (.aastore, 1) := by decide +kernel
theorem dX5_init_108 : decode cX5_init 108 = .ok (.iinc 1 1, 3) := by decide +kernel
theorem dX5_init_111 : decode cX5_init 111 = .ok (.goto (-26), 3) := by decide +kernel
theorem dX5_init_114 : decode cX5_init 114 = .ok (.return_, 1) := by decide +kernel
theorem dX5_pay_0 : decode cX5_pay 0 = .ok (.aload_n 0, 1) := by decide +kernel
theorem dX5_pay_1 : decode cX5_pay 1 = .ok (.iload_n 1, 1) := by decide +kernel
theorem dX5_pay_2 : decode cX5_pay 2 = .ok (.invokevirtual 46, 3) := by decide +kernel
theorem dX5_pay_5 : decode cX5_pay 5 = .ok (.astore_n 3, 1) := by decide +kernel
theorem dX5_pay_6 : decode cX5_pay 6 = .ok (.aload_n 3, 1) := by decide +kernel
theorem dX5_pay_7 : decode cX5_pay 7 = .ok (.ifnonnull 13, 3) := by decide +kernel
theorem dX5_pay_10 : decode cX5_pay 10 = .ok (.new 50, 3) := by decide +kernel
theorem dX5_pay_13 : decode cX5_pay 13 = .ok (.dup, 1) := by decide +kernel
theorem dX5_pay_14 : decode cX5_pay 14 = .ok (.ldc 52, 2) := by decide +kernel
theorem dX5_pay_16 : decode cX5_pay 16 = .ok (.invokespecial 54, 3) := by decide +kernel
theorem dX5_pay_19 : decode cX5_pay 19 = .ok (.athrow, 1) := by decide +kernel
theorem dX5_pay_20 : decode cX5_pay 20 = .ok (.iload_n 2, 1) := by decide +kernel
theorem dX5_pay_21 : decode cX5_pay 21 = .ok (.iconst 1, 1) := by decide +kernel
theorem dX5_pay_22 : decode cX5_pay 22 = .ok (.if_icmp .lt 10, 3) := by decide +kernel
theorem dX5_pay_25 : decode cX5_pay 25 = .ok (.iload_n 2, 1) := by decide +kernel
theorem dX5_pay_26 : decode cX5_pay 26 = .ok (.sipush 10000, 3) := by decide +kernel
theorem dX5_pay_29 : decode cX5_pay 29 = .ok (.if_icmp .le 13, 3) := by decide +kernel
theorem dX5_pay_32 : decode cX5_pay 32 = .ok (.new 57, 3) := by decide +kernel
theorem dX5_pay_35 : decode cX5_pay 35 = .ok (.dup, 1) := by decide +kernel
theorem dX5_pay_36 : decode cX5_pay 36 = .ok (.ldc 59, 2) := by decide +kernel
theorem dX5_pay_38 : decode cX5_pay 38 = .ok (.invokespecial 61, 3) := by decide +kernel
theorem dX5_pay_41 : decode cX5_pay 41 = .ok (.athrow, 1) := by decide +kernel
theorem dX5_pay_42 : decode cX5_pay 42 = .ok (.aload_n 3, 1) := by decide +kernel
theorem dX5_pay_43 : decode cX5_pay 43 = .ok (.getfield 62, 3) := by decide +kernel
theorem dX5_pay_46 : decode cX5_pay 46 = .ok (.ldc 65, 2) := by decide +kernel
theorem dX5_pay_48 : decode cX5_pay 48 = .ok (.iload_n 2, 1) := by decide +kernel
theorem dX5_pay_49 : decode cX5_pay 49 = .ok (.isub, 1) := by decide +kernel
theorem dX5_pay_50 : decode cX5_pay 50 = .ok (.if_icmp .le 13, 3) := by decide +kernel
theorem dX5_pay_53 : decode cX5_pay 53 = .ok (.new 66, 3) := by decide +kernel
theorem dX5_pay_56 : decode cX5_pay 56 = .ok (.dup, 1) := by decide +kernel
theorem dX5_pay_57 : decode cX5_pay 57 = .ok (.ldc 68, 2) := by decide +kernel
theorem dX5_pay_59 : decode cX5_pay 59 = .ok (.invokespecial 70, 3) := by decide +kernel
theorem dX5_pay_62 : decode cX5_pay 62 = .ok (.athrow, 1) := by decide +kernel
theorem dX5_pay_63 : decode cX5_pay 63 = .ok (.aload_n 3, 1) := by decide +kernel
theorem dX5_pay_64 : decode cX5_pay 64 = .ok (.dup, 1) := by decide +kernel
theorem dX5_pay_65 : decode cX5_pay 65 = .ok (.getfield 62, 3) := by decide +kernel
theorem dX5_pay_68 : decode cX5_pay 68 = .ok (.iload_n 2, 1) := by decide +kernel
theorem dX5_pay_69 : decode cX5_pay 69 = .ok (.iadd, 1) := by decide +kernel
theorem dX5_pay_70 : decode cX5_pay 70 = .ok (.putfield 62, 3) := by decide +kernel
theorem dX5_pay_73 : decode cX5_pay 73 = .ok (.aload_n 3, 1) := by decide +kernel
theorem dX5_pay_74 : decode cX5_pay 74 = .ok (.getfield 62, 3) := by decide +kernel
theorem dX5_pay_77 : decode cX5_pay 77 = .ok (.ireturn, 1) := by decide +kernel
theorem dX5_setStreet_0 : decode cX5_setStreet 0 = .ok (.aload_n 0, 1) := by decide +kernel
theorem dX5_setStreet_1 : decode cX5_setStreet 1 = .ok (.iload_n 1, 1) := by decide +kernel
theorem dX5_setStreet_2 : decode cX5_setStreet 2 = .ok (.invokevirtual 46, 3) := by decide +kernel
theorem dX5_setStreet_5 : decode cX5_setStreet 5 = .ok (.astore 4, 2) := by decide +kernel
theorem dX5_setStreet_7 : decode cX5_setStreet 7 = .ok (.aload 4, 2) := by decide +kernel
theorem dX5_setStreet_9 : decode cX5_setStreet 9 = .ok (.ifnonnull 13, 3) := by decide +kernel
theorem dX5_setStreet_12 : decode cX5_setStreet 12 = .ok (.new 50, 3) := by decide +kernel
theorem dX5_setStreet_15 : decode cX5_setStreet 15 = .ok (.dup, 1) := by decide +kernel
theorem dX5_setStreet_16 : decode cX5_setStreet 16 = .ok (.ldc 52, 2) := by decide +kernel
theorem dX5_setStreet_18 : decode cX5_setStreet 18 = .ok (.invokespecial 54, 3) := by decide +kernel
theorem dX5_setStreet_21 : decode cX5_setStreet 21 = .ok (.athrow, 1) := by decide +kernel
theorem dX5_setStreet_22 : decode cX5_setStreet 22 = .ok (.iload_n 2, 1) := by decide +kernel
theorem dX5_setStreet_23 : decode cX5_setStreet 23 = .ok (.ifCond .lt 9, 3) := by decide +kernel
theorem dX5_setStreet_26 : decode cX5_setStreet 26 = .ok (.iload_n 2, 1) := by decide +kernel
theorem dX5_setStreet_27 : decode cX5_setStreet 27 = .ok (.bipush 50, 2) := by decide +kernel
theorem dX5_setStreet_29 : decode cX5_setStreet 29 = .ok (.if_icmp .le 13, 3) := by decide +kernel
theorem dX5_setStreet_32 : decode cX5_setStreet 32 = .ok (.new 57, 3) := by decide +kernel
theorem dX5_setStreet_35 : decode cX5_setStreet 35 = .ok (.dup, 1) := by decide +kernel
theorem dX5_setStreet_36 : decode cX5_setStreet 36 = .ok (.ldc 71, 2) := by decide +kernel
theorem dX5_setStreet_38 : decode cX5_setStreet 38 = .ok (.invokespecial 61, 3) := by decide +kernel
theorem dX5_setStreet_41 : decode cX5_setStreet 41 = .ok (.athrow, 1) := by decide +kernel
theorem dX5_setStreet_42 : decode cX5_setStreet 42 = .ok (.aload 4, 2) := by decide +kernel
theorem dX5_setStreet_44 : decode cX5_setStreet 44 = .ok (.getfield 73, 3) := by decide +kernel
theorem dX5_setStreet_47 : decode cX5_setStreet 47 = .ok (.istore 5, 2) := by decide +kernel
theorem dX5_setStreet_49 : decode cX5_setStreet 49 = .ok (.aload 4, 2) := by decide +kernel
theorem dX5_setStreet_51 : decode cX5_setStreet 51 = .ok (.iload_n 2, 1) := by decide +kernel
theorem dX5_setStreet_52 : decode cX5_setStreet 52 = .ok (.putfield 73, 3) := by decide +kernel
theorem dX5_setStreet_55 : decode cX5_setStreet 55 = .ok (.aload 4, 2) := by decide +kernel
theorem dX5_setStreet_57 : decode cX5_setStreet 57 = .ok (.iload_n 3, 1) := by decide +kernel
theorem dX5_setStreet_58 : decode cX5_setStreet 58 = .ok (.putfield 76, 3) := by decide +kernel
theorem dX5_setStreet_61 : decode cX5_setStreet 61 = .ok (.iload 5, 2) := by decide +kernel
theorem dX5_setStreet_63 : decode cX5_setStreet 63 = .ok (.ireturn, 1) := by decide +kernel
theorem dX5_vote_0 : decode cX5_vote 0 = .ok (.aload_n 0, 1) := by decide +kernel
theorem dX5_vote_1 : decode cX5_vote 1 = .ok (.iload_n 1, 1) := by decide +kernel
theorem dX5_vote_2 : decode cX5_vote 2 = .ok (.invokevirtual 46, 3) := by decide +kernel
theorem dX5_vote_5 : decode cX5_vote 5 = .ok (.astore 4, 2) := by decide +kernel
theorem dX5_vote_7 : decode cX5_vote 7 = .ok (.aload 4, 2) := by decide +kernel
theorem dX5_vote_9 : decode cX5_vote 9 = .ok (.ifnonnull 13, 3) := by decide +kernel
theorem dX5_vote_12 : decode cX5_vote 12 = .ok (.new 50, 3) := by decide +kernel
theorem dX5_vote_15 : decode cX5_vote 15 = .ok (.dup, 1) := by decide +kernel
theorem dX5_vote_16 : decode cX5_vote 16 = .ok (.ldc 52, 2) := by decide +kernel
theorem dX5_vote_18 : decode cX5_vote 18 = .ok (.invokespecial 54, 3) := by decide +kernel
theorem dX5_vote_21 : decode cX5_vote 21 = .ok (.athrow, 1) := by decide +kernel
theorem dX5_vote_22 : decode cX5_vote 22 = .ok (.iload_n 2, 1) := by decide +kernel
theorem dX5_vote_23 : decode cX5_vote 23 = .ok (.ifCond .lt 8, 3) := by decide +kernel
theorem dX5_vote_26 : decode cX5_vote 26 = .ok (.iload_n 2, 1) := by decide +kernel
theorem dX5_vote_27 : decode cX5_vote 27 = .ok (.iconst 3, 1) := by decide +kernel
theorem dX5_vote_28 : decode cX5_vote 28 = .ok (.if_icmp .lt 13, 3) := by decide +kernel
theorem dX5_vote_31 : decode cX5_vote 31 = .ok (.new 50, 3) := by decide +kernel
theorem dX5_vote_34 : decode cX5_vote 34 = .ok (.dup, 1) := by decide +kernel
theorem dX5_vote_35 : decode cX5_vote 35 = .ok (.ldc 80, 2) := by decide +kernel
theorem dX5_vote_37 : decode cX5_vote 37 = .ok (.invokespecial 54, 3) := by decide +kernel
theorem dX5_vote_40 : decode cX5_vote 40 = .ok (.athrow, 1) := by decide +kernel
theorem dX5_vote_41 : decode cX5_vote 41 = .ok (.iload_n 3, 1) := by decide +kernel
theorem dX5_vote_42 : decode cX5_vote 42 = .ok (.iconst 1, 1) := by decide +kernel
theorem dX5_vote_43 : decode cX5_vote 43 = .ok (.if_icmp .lt 9, 3) := by decide +kernel
theorem dX5_vote_46 : decode cX5_vote 46 = .ok (.iload_n 3, 1) := by decide +kernel
theorem dX5_vote_47 : decode cX5_vote 47 = .ok (.bipush 30, 2) := by decide +kernel
theorem dX5_vote_49 : decode cX5_vote 49 = .ok (.if_icmp .le 13, 3) := by decide +kernel
theorem dX5_vote_52 : decode cX5_vote 52 = .ok (.new 57, 3) := by decide +kernel
theorem dX5_vote_55 : decode cX5_vote 55 = .ok (.dup, 1) := by decide +kernel
theorem dX5_vote_56 : decode cX5_vote 56 = .ok (.ldc 82, 2) := by decide +kernel
theorem dX5_vote_58 : decode cX5_vote 58 = .ok (.invokespecial 61, 3) := by decide +kernel
theorem dX5_vote_61 : decode cX5_vote 61 = .ok (.athrow, 1) := by decide +kernel
theorem dX5_vote_62 : decode cX5_vote 62 = .ok (.aload 4, 2) := by decide +kernel
theorem dX5_vote_64 : decode cX5_vote 64 = .ok (.iload_n 2, 1) := by decide +kernel
theorem dX5_vote_65 : decode cX5_vote 65 = .ok (.iload_n 3, 1) := by decide +kernel
theorem dX5_vote_66 : decode cX5_vote 66 = .ok (.invokevirtual 84, 3) := by decide +kernel
theorem dX5_vote_69 : decode cX5_vote 69 = .ok (.aload 4, 2) := by decide +kernel
theorem dX5_vote_71 : decode cX5_vote 71 = .ok (.invokevirtual 88, 3) := by decide +kernel
theorem dX5_vote_74 : decode cX5_vote 74 = .ok (.ireturn, 1) := by decide +kernel
theorem dX5_place_0 : decode cX5_place 0 = .ok (.aload_n 0, 1) := by decide +kernel
theorem dX5_place_1 : decode cX5_place 1 = .ok (.iload_n 1, 1) := by decide +kernel
theorem dX5_place_2 : decode cX5_place 2 = .ok (.invokevirtual 92, 3) := by decide +kernel
theorem dX5_place_5 : decode cX5_place 5 = .ok (.astore_n 3, 1) := by decide +kernel
theorem dX5_place_6 : decode cX5_place 6 = .ok (.aload_n 3, 1) := by decide +kernel
theorem dX5_place_7 : decode cX5_place 7 = .ok (.ifnonnull 13, 3) := by decide +kernel
theorem dX5_place_10 : decode cX5_place 10 = .ok (.new 50, 3) := by decide +kernel
theorem dX5_place_13 : decode cX5_place 13 = .ok (.dup, 1) := by decide +kernel
theorem dX5_place_14 : decode cX5_place 14 = .ok (.ldc 96, 2) := by decide +kernel
theorem dX5_place_16 : decode cX5_place 16 = .ok (.invokespecial 54, 3) := by decide +kernel
theorem dX5_place_19 : decode cX5_place 19 = .ok (.athrow, 1) := by decide +kernel
theorem dX5_place_20 : decode cX5_place 20 = .ok (.iload_n 2, 1) := by decide +kernel
theorem dX5_place_21 : decode cX5_place 21 = .ok (.invokestatic 98, 3) := by decide +kernel
theorem dX5_place_24 : decode cX5_place 24 = .ok (.ifCond .ne 13, 3) := by decide +kernel
theorem dX5_place_27 : decode cX5_place 27 = .ok (.new 50, 3) := by decide +kernel
theorem dX5_place_30 : decode cX5_place 30 = .ok (.dup, 1) := by decide +kernel
theorem dX5_place_31 : decode cX5_place 31 = .ok (.ldc 52, 2) := by decide +kernel
theorem dX5_place_33 : decode cX5_place 33 = .ok (.invokespecial 54, 3) := by decide +kernel
theorem dX5_place_36 : decode cX5_place 36 = .ok (.athrow, 1) := by decide +kernel
theorem dX5_place_37 : decode cX5_place 37 = .ok (.aload_n 3, 1) := by decide +kernel
theorem dX5_place_38 : decode cX5_place 38 = .ok (.getfield 102, 3) := by decide +kernel
theorem dX5_place_41 : decode cX5_place 41 = .ok (.ifCond .ne 13, 3) := by decide +kernel
theorem dX5_place_44 : decode cX5_place 44 = .ok (.new 66, 3) := by decide +kernel
theorem dX5_place_47 : decode cX5_place 47 = .ok (.dup, 1) := by decide +kernel
theorem dX5_place_48 : decode cX5_place 48 = .ok (.ldc 105, 2) := by decide +kernel
theorem dX5_place_50 : decode cX5_place 50 = .ok (.invokespecial 70, 3) := by decide +kernel
theorem dX5_place_53 : decode cX5_place 53 = .ok (.athrow, 1) := by decide +kernel
theorem dX5_place_54 : decode cX5_place 54 = .ok (.aload_n 3, 1) := by decide +kernel
theorem dX5_place_55 : decode cX5_place 55 = .ok (.getfield 107, 3) := by decide +kernel
theorem dX5_place_58 : decode cX5_place 58 = .ok (.istore 4, 2) := by decide +kernel
theorem dX5_place_60 : decode cX5_place 60 = .ok (.aload_n 3, 1) := by decide +kernel
theorem dX5_place_61 : decode cX5_place 61 = .ok (.iload_n 2, 1) := by decide +kernel
theorem dX5_place_62 : decode cX5_place 62 = .ok (.putfield 107, 3) := by decide +kernel
theorem dX5_place_65 : decode cX5_place 65 = .ok (.iload 4, 2) := by decide +kernel
theorem dX5_place_67 : decode cX5_place 67 = .ok (.ireturn, 1) := by decide +kernel
theorem dX5_ask_0 : decode cX5_ask 0 = .ok (.iload_n 1, 1) := by decide +kernel
theorem dX5_ask_1 : decode cX5_ask 1 = .ok (.invokestatic 98, 3) := by decide +kernel
theorem dX5_ask_4 : decode cX5_ask 4 = .ok (.ifCond .eq 10, 3) := by decide +kernel
theorem dX5_ask_7 : decode cX5_ask 7 = .ok (.iload_n 2, 1) := by decide +kernel
theorem dX5_ask_8 : decode cX5_ask 8 = .ok (.invokestatic 98, 3) := by decide +kernel
theorem dX5_ask_11 : decode cX5_ask 11 = .ok (.ifCond .ne 13, 3) := by decide +kernel
theorem dX5_ask_14 : decode cX5_ask 14 = .ok (.new 50, 3) := by decide +kernel
theorem dX5_ask_17 : decode cX5_ask 17 = .ok (.dup, 1) := by decide +kernel
theorem dX5_ask_18 : decode cX5_ask 18 = .ok (.ldc 52, 2) := by decide +kernel
theorem dX5_ask_20 : decode cX5_ask 20 = .ok (.invokespecial 54, 3) := by decide +kernel
theorem dX5_ask_23 : decode cX5_ask 23 = .ok (.athrow, 1) := by decide +kernel
theorem dX5_ask_24 : decode cX5_ask 24 = .ok (.iload_n 1, 1) := by decide +kernel
theorem dX5_ask_25 : decode cX5_ask 25 = .ok (.iload_n 2, 1) := by decide +kernel
theorem dX5_ask_26 : decode cX5_ask 26 = .ok (.if_icmp .ne 13, 3) := by decide +kernel
theorem dX5_ask_29 : decode cX5_ask 29 = .ok (.new 57, 3) := by decide +kernel
theorem dX5_ask_32 : decode cX5_ask 32 = .ok (.dup, 1) := by decide +kernel
theorem dX5_ask_33 : decode cX5_ask 33 = .ok (.ldc 110, 2) := by decide +kernel
theorem dX5_ask_35 : decode cX5_ask 35 = .ok (.invokespecial 61, 3) := by decide +kernel
theorem dX5_ask_38 : decode cX5_ask 38 = .ok (.athrow, 1) := by decide +kernel
theorem dX5_ask_39 : decode cX5_ask 39 = .ok (.aload_n 0, 1) := by decide +kernel
theorem dX5_ask_40 : decode cX5_ask 40 = .ok (.getfield 24, 3) := by decide +kernel
theorem dX5_ask_43 : decode cX5_ask 43 = .ok (.invokevirtual 112, 3) := by decide +kernel
theorem dX5_ask_46 : decode cX5_ask 46 = .ok (.bipush 60, 2) := by decide +kernel
theorem dX5_ask_48 : decode cX5_ask 48 = .ok (.if_icmp .lt 13, 3) := by decide +kernel
theorem dX5_ask_51 : decode cX5_ask 51 = .ok (.new 66, 3) := by decide +kernel
theorem dX5_ask_54 : decode cX5_ask 54 = .ok (.dup, 1) := by decide +kernel
theorem dX5_ask_55 : decode cX5_ask 55 = .ok (.ldc 115, 2) := by decide +kernel
theorem dX5_ask_57 : decode cX5_ask 57 = .ok (.invokespecial 70, 3) := by decide +kernel
theorem dX5_ask_60 : decode cX5_ask 60 = .ok (.athrow, 1) := by decide +kernel
theorem dX5_ask_61 : decode cX5_ask 61 = .ok (.aload_n 0, 1) := by decide +kernel
theorem dX5_ask_62 : decode cX5_ask 62 = .ok (.getfield 24, 3) := by decide +kernel
theorem dX5_ask_65 : decode cX5_ask 65 = .ok (.invokevirtual 112, 3) := by decide +kernel
theorem dX5_ask_68 : decode cX5_ask 68 = .ok (.istore_n 3, 1) := by decide +kernel
theorem dX5_ask_69 : decode cX5_ask 69 = .ok (.aload_n 0, 1) := by decide +kernel
theorem dX5_ask_70 : decode cX5_ask 70 = .ok (.getfield 24, 3) := by decide +kernel
theorem dX5_ask_73 : decode cX5_ask 73 = .ok (.new 117, 3) := by decide +kernel
theorem dX5_ask_76 : decode cX5_ask 76 = .ok (.dup, 1) := by decide +kernel
theorem dX5_ask_77 : decode cX5_ask 77 = .ok (.iload_n 3, 1) := by decide +kernel
theorem dX5_ask_78 : decode cX5_ask 78 = .ok (.iload_n 1, 1) := by decide +kernel
theorem dX5_ask_79 : decode cX5_ask 79 = .ok (.iload_n 2, 1) := by decide +kernel
theorem dX5_ask_80 : decode cX5_ask 80 = .ok (.invokespecial 119, 3) := by decide +kernel
theorem dX5_ask_83 : decode cX5_ask 83 = .ok (.invokevirtual 122, 3) := by decide +kernel
theorem dX5_ask_86 : decode cX5_ask 86 = .ok (.pop, 1) := by decide +kernel
theorem dX5_ask_87 : decode cX5_ask 87 = .ok (.iload_n 3, 1) := by decide +kernel
theorem dX5_ask_88 : decode cX5_ask 88 = .ok (.ireturn, 1) := by decide +kernel
theorem dX5_pass_0 : decode cX5_pass 0 = .ok (.iload_n 1, 1) := by decide +kernel
theorem dX5_pass_1 : decode cX5_pass 1 = .ok (.iconst 1, 1) := by decide +kernel
theorem dX5_pass_2 : decode cX5_pass 2 = .ok (.if_icmp .lt 9, 3) := by decide +kernel
theorem dX5_pass_5 : decode cX5_pass 5 = .ok (.iload_n 1, 1) := by decide +kernel
theorem dX5_pass_6 : decode cX5_pass 6 = .ok (.bipush 60, 2) := by decide +kernel
theorem dX5_pass_8 : decode cX5_pass 8 = .ok (.if_icmp .le 13, 3) := by decide +kernel
theorem dX5_pass_11 : decode cX5_pass 11 = .ok (.new 57, 3) := by decide +kernel
theorem dX5_pass_14 : decode cX5_pass 14 = .ok (.dup, 1) := by decide +kernel
theorem dX5_pass_15 : decode cX5_pass 15 = .ok (.ldc 126, 2) := by decide +kernel
theorem dX5_pass_17 : decode cX5_pass 17 = .ok (.invokespecial 61, 3) := by decide +kernel
theorem dX5_pass_20 : decode cX5_pass 20 = .ok (.athrow, 1) := by decide +kernel
theorem dX5_pass_21 : decode cX5_pass 21 = .ok (.aload_n 0, 1) := by decide +kernel
theorem dX5_pass_22 : decode cX5_pass 22 = .ok (.getfield 39, 3) := by decide +kernel
theorem dX5_pass_25 : decode cX5_pass 25 = .ok (.sipush 1000, 3) := by decide +kernel
theorem dX5_pass_28 : decode cX5_pass 28 = .ok (.iload_n 1, 1) := by decide +kernel
theorem dX5_pass_29 : decode cX5_pass 29 = .ok (.isub, 1) := by decide +kernel
theorem dX5_pass_30 : decode cX5_pass 30 = .ok (.if_icmp .le 13, 3) := by decide +kernel
theorem dX5_pass_33 : decode cX5_pass 33 = .ok (.new 66, 3) := by decide +kernel
theorem dX5_pass_36 : decode cX5_pass 36 = .ok (.dup, 1) := by decide +kernel
theorem dX5_pass_37 : decode cX5_pass 37 = .ok (.ldc 128, 2) := by decide +kernel
theorem dX5_pass_39 : decode cX5_pass 39 = .ok (.invokespecial 70, 3) := by decide +kernel
theorem dX5_pass_42 : decode cX5_pass 42 = .ok (.athrow, 1) := by decide +kernel
theorem dX5_pass_43 : decode cX5_pass 43 = .ok (.iconst 0, 1) := by decide +kernel
theorem dX5_pass_44 : decode cX5_pass 44 = .ok (.istore_n 2, 1) := by decide +kernel
theorem dX5_pass_45 : decode cX5_pass 45 = .ok (.iconst 0, 1) := by decide +kernel
theorem dX5_pass_46 : decode cX5_pass 46 = .ok (.istore_n 3, 1) := by decide +kernel
theorem dX5_pass_47 : decode cX5_pass 47 = .ok (.iload_n 3, 1) := by decide +kernel
theorem dX5_pass_48 : decode cX5_pass 48 = .ok (.iload_n 1, 1) := by decide +kernel
theorem dX5_pass_49 : decode cX5_pass 49 = .ok (.if_icmp .ge 20, 3) := by decide +kernel
theorem dX5_pass_52 : decode cX5_pass 52 = .ok (.aload_n 0, 1) := by decide +kernel
theorem dX5_pass_53 : decode cX5_pass 53 = .ok (.invokevirtual 130, 3) := by decide +kernel
theorem dX5_pass_56 : decode cX5_pass 56 = .ok (.iload_n 2, 1) := by decide +kernel
theorem dX5_pass_57 : decode cX5_pass 57 = .ok (.aload_n 0, 1) := by decide +kernel
theorem dX5_pass_58 : decode cX5_pass 58 = .ok (.invokevirtual 133, 3) := by decide +kernel
theorem dX5_pass_61 : decode cX5_pass 61 = .ok (.iadd, 1) := by decide +kernel
theorem dX5_pass_62 : decode cX5_pass 62 = .ok (.istore_n 2, 1) := by decide +kernel
theorem dX5_pass_63 : decode cX5_pass 63 = .ok (.iinc 3 1, 3) := by decide +kernel
theorem dX5_pass_66 : decode cX5_pass 66 = .ok (.goto (-19), 3) := by decide +kernel
theorem dX5_pass_69 : decode cX5_pass 69 = .ok (.aload_n 0, 1) := by decide +kernel
theorem dX5_pass_70 : decode cX5_pass 70 = .ok (.dup, 1) := by decide +kernel
theorem dX5_pass_71 : decode cX5_pass 71 = .ok (.getfield 39, 3) := by decide +kernel
theorem dX5_pass_74 : decode cX5_pass 74 = .ok (.iload_n 1, 1) := by decide +kernel
theorem dX5_pass_75 : decode cX5_pass 75 = .ok (.iadd, 1) := by decide +kernel
theorem dX5_pass_76 : decode cX5_pass 76 = .ok (.putfield 39, 3) := by decide +kernel
theorem dX5_pass_79 : decode cX5_pass 79 = .ok (.iload_n 2, 1) := by decide +kernel
theorem dX5_pass_80 : decode cX5_pass 80 = .ok (.ireturn, 1) := by decide +kernel
theorem dX5_night_0 : decode cX5_night 0 = .ok (.aload_n 0, 1) := by decide +kernel
theorem dX5_night_1 : decode cX5_night 1 = .ok (.invokevirtual 136, 3) := by decide +kernel
theorem dX5_night_4 : decode cX5_night 4 = .ok (.ifCond .ne 13, 3) := by decide +kernel
theorem dX5_night_7 : decode cX5_night 7 = .ok (.new 66, 3) := by decide +kernel
theorem dX5_night_10 : decode cX5_night 10 = .ok (.dup, 1) := by decide +kernel
theorem dX5_night_11 : decode cX5_night 11 = .ok (.ldc 140, 2) := by decide +kernel
theorem dX5_night_13 : decode cX5_night 13 = .ok (.invokespecial 70, 3) := by decide +kernel
theorem dX5_night_16 : decode cX5_night 16 = .ok (.athrow, 1) := by decide +kernel
theorem dX5_night_17 : decode cX5_night 17 = .ok (.aload_n 0, 1) := by decide +kernel
theorem dX5_night_18 : decode cX5_night 18 = .ok (.getfield 35, 3) := by decide +kernel
theorem dX5_night_21 : decode cX5_night 21 = .ok (.sipush 1000, 3) := by decide +kernel
theorem dX5_night_24 : decode cX5_night 24 = .ok (.if_icmp .lt 13, 3) := by decide +kernel
theorem dX5_night_27 : decode cX5_night 27 = .ok (.new 66, 3) := by decide +kernel
theorem dX5_night_30 : decode cX5_night 30 = .ok (.dup, 1) := by decide +kernel
theorem dX5_night_31 : decode cX5_night 31 = .ok (.ldc 142, 2) := by decide +kernel
theorem dX5_night_33 : decode cX5_night 33 = .ok (.invokespecial 70, 3) := by decide +kernel
theorem dX5_night_36 : decode cX5_night 36 = .ok (.athrow, 1) := by decide +kernel
theorem dX5_night_37 : decode cX5_night 37 = .ok (.aload_n 0, 1) := by decide +kernel
theorem dX5_night_38 : decode cX5_night 38 = .ok (.dup, 1) := by decide +kernel
theorem dX5_night_39 : decode cX5_night 39 = .ok (.getfield 35, 3) := by decide +kernel
theorem dX5_night_42 : decode cX5_night 42 = .ok (.iconst 1, 1) := by decide +kernel
theorem dX5_night_43 : decode cX5_night 43 = .ok (.iadd, 1) := by decide +kernel
theorem dX5_night_44 : decode cX5_night 44 = .ok (.putfield 35, 3) := by decide +kernel
theorem dX5_night_47 : decode cX5_night 47 = .ok (.aload_n 0, 1) := by decide +kernel
theorem dX5_night_48 : decode cX5_night 48 = .ok (.iconst 0, 1) := by decide +kernel
theorem dX5_night_49 : decode cX5_night 49 = .ok (.putfield 39, 3) := by decide +kernel
theorem dX5_night_52 : decode cX5_night 52 = .ok (.aload_n 0, 1) := by decide +kernel
theorem dX5_night_53 : decode cX5_night 53 = .ok (.getfield 31, 3) := by decide +kernel
theorem dX5_night_56 : decode cX5_night 56 = .ok (.aload_n 0, 1) := by decide +kernel
theorem dX5_night_57 : decode cX5_night 57 = .ok (.getfield 35, 3) := by decide +kernel
theorem dX5_night_60 : decode cX5_night 60 = .ok (.invokevirtual 144, 3) := by decide +kernel
theorem dX5_night_63 : decode cX5_night 63 = .ok (.ireturn, 1) := by decide +kernel
theorem dX5_complain_0 : decode cX5_complain 0 = .ok (.aload_n 0, 1) := by decide +kernel
theorem dX5_complain_1 : decode cX5_complain 1 = .ok (.iload_n 1, 1) := by decide +kernel
theorem dX5_complain_2 : decode cX5_complain 2 = .ok (.invokevirtual 148, 3) := by decide +kernel
theorem dX5_complain_5 : decode cX5_complain 5 = .ok (.astore_n 3, 1) := by decide +kernel
theorem dX5_complain_6 : decode cX5_complain 6 = .ok (.aload_n 3, 1) := by decide +kernel
theorem dX5_complain_7 : decode cX5_complain 7 = .ok (.ifnonnull 13, 3) := by decide +kernel
theorem dX5_complain_10 : decode cX5_complain 10 = .ok (.new 50, 3) := by decide +kernel
theorem dX5_complain_13 : decode cX5_complain 13 = .ok (.dup, 1) := by decide +kernel
theorem dX5_complain_14 : decode cX5_complain 14 = .ok (.ldc 152, 2) := by decide +kernel
theorem dX5_complain_16 : decode cX5_complain 16 = .ok (.invokespecial 54, 3) := by decide +kernel
theorem dX5_complain_19 : decode cX5_complain 19 = .ok (.athrow, 1) := by decide +kernel
theorem dX5_complain_20 : decode cX5_complain 20 = .ok (.aload_n 3, 1) := by decide +kernel
theorem dX5_complain_21 : decode cX5_complain 21 = .ok (.getfield 154, 3) := by decide +kernel
theorem dX5_complain_24 : decode cX5_complain 24 = .ok (.astore 4, 2) := by decide +kernel
theorem dX5_complain_26 : decode cX5_complain 26 = .ok (.aload_n 3, 1) := by decide +kernel
theorem dX5_complain_27 : decode cX5_complain 27 = .ok (.getfield 158, 3) := by decide +kernel
theorem dX5_complain_30 : decode cX5_complain 30 = .ok (.iconst 3, 1) := by decide +kernel
theorem dX5_complain_31 : decode cX5_complain 31 = .ok (.if_icmp .ne 8, 3) := by decide +kernel
theorem dX5_complain_34 : decode cX5_complain 34 = .ok (.aload 4, 2) := by decide +kernel
theorem dX5_complain_36 : decode cX5_complain 36 = .ok (.ifnonnull 13, 3) := by decide +kernel
theorem dX5_complain_39 : decode cX5_complain 39 = .ok (.new 66, 3) := by decide +kernel
theorem dX5_complain_42 : decode cX5_complain 42 = .ok (.dup, 1) := by decide +kernel
theorem dX5_complain_43 : decode cX5_complain 43 = .ok (.ldc 161, 2) := by decide +kernel
theorem dX5_complain_45 : decode cX5_complain 45 = .ok (.invokespecial 70, 3) := by decide +kernel
theorem dX5_complain_48 : decode cX5_complain 48 = .ok (.athrow, 1) := by decide +kernel
theorem dX5_complain_49 : decode cX5_complain 49 = .ok (.aload_n 3, 1) := by decide +kernel
theorem dX5_complain_50 : decode cX5_complain 50 = .ok (.getfield 163, 3) := by decide +kernel
theorem dX5_complain_53 : decode cX5_complain 53 = .ok (.ifCond .eq 13, 3) := by decide +kernel
theorem dX5_complain_56 : decode cX5_complain 56 = .ok (.new 66, 3) := by decide +kernel
theorem dX5_complain_59 : decode cX5_complain 59 = .ok (.dup, 1) := by decide +kernel
theorem dX5_complain_60 : decode cX5_complain 60 = .ok (.ldc 166, 2) := by decide +kernel
theorem dX5_complain_62 : decode cX5_complain 62 = .ok (.invokespecial 70, 3) := by decide +kernel
theorem dX5_complain_65 : decode cX5_complain 65 = .ok (.athrow, 1) := by decide +kernel
theorem dX5_complain_66 : decode cX5_complain 66 = .ok (.aload_n 3, 1) := by decide +kernel
theorem dX5_complain_67 : decode cX5_complain 67 = .ok (.iconst 1, 1) := by decide +kernel
theorem dX5_complain_68 : decode cX5_complain 68 = .ok (.putfield 163, 3) := by decide +kernel
theorem dX5_complain_71 : decode cX5_complain 71 = .ok (.aload 4, 2) := by decide +kernel
theorem dX5_complain_73 : decode cX5_complain 73 = .ok (.iload_n 2, 1) := by decide +kernel
theorem dX5_complain_74 : decode cX5_complain 74 = .ok (.ifCond .eq 18, 3) := by decide +kernel
theorem dX5_complain_77 : decode cX5_complain 77 = .ok (.bipush 100, 2) := by decide +kernel
theorem dX5_complain_79 : decode cX5_complain 79 = .ok (.aload 4, 2) := by decide +kernel
theorem dX5_complain_81 : decode cX5_complain 81 = .ok (.getfield 168, 3) := by decide +kernel
theorem dX5_complain_84 : decode cX5_complain 84 = .ok (.iconst 5, 1) := by decide +kernel
theorem dX5_complain_85 : decode cX5_complain 85 = .ok (.iadd, 1) := by decide +kernel
theorem dX5_complain_86 : decode cX5_complain 86 = .ok (.invokestatic 171, 3) := by decide +kernel
theorem dX5_complain_89 : decode cX5_complain 89 = .ok (.goto 15, 3) := by decide +kernel
theorem dX5_complain_92 : decode cX5_complain 92 = .ok (.iconst 0, 1) := by decide +kernel
theorem dX5_complain_93 : decode cX5_complain 93 = .ok (.aload 4, 2) := by decide +kernel
theorem dX5_complain_95 : decode cX5_complain 95 = .ok (.getfield 168, 3) := by decide +kernel
theorem dX5_complain_98 : decode cX5_complain 98 = .ok (.bipush 10, 2) := by decide +kernel
theorem dX5_complain_100 : decode cX5_complain 100 = .ok (.isub, 1) := by decide +kernel
theorem dX5_complain_101 : decode cX5_complain 101 = .ok (.invokestatic 177, 3) := by decide +kernel
theorem dX5_complain_104 : decode cX5_complain 104 = .ok (.putfield 168, 3) := by decide +kernel
theorem dX5_complain_107 : decode cX5_complain 107 = .ok (.aload 4, 2) := by decide +kernel
theorem dX5_complain_109 : decode cX5_complain 109 = .ok (.getfield 168, 3) := by decide +kernel
theorem dX5_complain_112 : decode cX5_complain 112 = .ok (.ireturn, 1) := by decide +kernel
theorem dX5_day_0 : decode cX5_day 0 = .ok (.aload_n 0, 1) := by decide +kernel
theorem dX5_day_1 : decode cX5_day 1 = .ok (.getfield 35, 3) := by decide +kernel
theorem dX5_day_4 : decode cX5_day 4 = .ok (.ireturn, 1) := by decide +kernel
theorem dX5_minute_0 : decode cX5_minute 0 = .ok (.aload_n 0, 1) := by decide +kernel
theorem dX5_minute_1 : decode cX5_minute 1 = .ok (.getfield 39, 3) := by decide +kernel
theorem dX5_minute_4 : decode cX5_minute 4 = .ok (.ireturn, 1) := by decide +kernel
theorem dX5_purse_0 : decode cX5_purse 0 = .ok (.aload_n 0, 1) := by decide +kernel
theorem dX5_purse_1 : decode cX5_purse 1 = .ok (.iload_n 1, 1) := by decide +kernel
theorem dX5_purse_2 : decode cX5_purse 2 = .ok (.invokevirtual 46, 3) := by decide +kernel
theorem dX5_purse_5 : decode cX5_purse 5 = .ok (.astore_n 2, 1) := by decide +kernel
theorem dX5_purse_6 : decode cX5_purse 6 = .ok (.aload_n 2, 1) := by decide +kernel
theorem dX5_purse_7 : decode cX5_purse 7 = .ok (.ifnonnull 13, 3) := by decide +kernel
theorem dX5_purse_10 : decode cX5_purse 10 = .ok (.new 50, 3) := by decide +kernel
theorem dX5_purse_13 : decode cX5_purse 13 = .ok (.dup, 1) := by decide +kernel
theorem dX5_purse_14 : decode cX5_purse 14 = .ok (.ldc 52, 2) := by decide +kernel
theorem dX5_purse_16 : decode cX5_purse 16 = .ok (.invokespecial 54, 3) := by decide +kernel
theorem dX5_purse_19 : decode cX5_purse 19 = .ok (.athrow, 1) := by decide +kernel
theorem dX5_purse_20 : decode cX5_purse 20 = .ok (.aload_n 2, 1) := by decide +kernel
theorem dX5_purse_21 : decode cX5_purse 21 = .ok (.getfield 62, 3) := by decide +kernel
theorem dX5_purse_24 : decode cX5_purse 24 = .ok (.ireturn, 1) := by decide +kernel
theorem dX5_walks_0 : decode cX5_walks 0 = .ok (.aload_n 0, 1) := by decide +kernel
theorem dX5_walks_1 : decode cX5_walks 1 = .ok (.getfield 24, 3) := by decide +kernel
theorem dX5_walks_4 : decode cX5_walks 4 = .ok (.invokevirtual 112, 3) := by decide +kernel
theorem dX5_walks_7 : decode cX5_walks 7 = .ok (.ireturn, 1) := by decide +kernel
theorem dX5_state_0 : decode cX5_state 0 = .ok (.aload_n 0, 1) := by decide +kernel
theorem dX5_state_1 : decode cX5_state 1 = .ok (.iload_n 1, 1) := by decide +kernel
theorem dX5_state_2 : decode cX5_state 2 = .ok (.invokevirtual 148, 3) := by decide +kernel
theorem dX5_state_5 : decode cX5_state 5 = .ok (.astore_n 2, 1) := by decide +kernel
theorem dX5_state_6 : decode cX5_state 6 = .ok (.aload_n 2, 1) := by decide +kernel
theorem dX5_state_7 : decode cX5_state 7 = .ok (.ifnonnull 13, 3) := by decide +kernel
theorem dX5_state_10 : decode cX5_state 10 = .ok (.new 50, 3) := by decide +kernel
theorem dX5_state_13 : decode cX5_state 13 = .ok (.dup, 1) := by decide +kernel
theorem dX5_state_14 : decode cX5_state 14 = .ok (.ldc 152, 2) := by decide +kernel
theorem dX5_state_16 : decode cX5_state 16 = .ok (.invokespecial 54, 3) := by decide +kernel
theorem dX5_state_19 : decode cX5_state 19 = .ok (.athrow, 1) := by decide +kernel
theorem dX5_state_20 : decode cX5_state 20 = .ok (.aload_n 2, 1) := by decide +kernel
theorem dX5_state_21 : decode cX5_state 21 = .ok (.getfield 158, 3) := by decide +kernel
theorem dX5_state_24 : decode cX5_state 24 = .ok (.ireturn, 1) := by decide +kernel
theorem dX5_escortOf_0 : decode cX5_escortOf 0 = .ok (.aload_n 0, 1) := by decide +kernel
theorem dX5_escortOf_1 : decode cX5_escortOf 1 = .ok (.iload_n 1, 1) := by decide +kernel
theorem dX5_escortOf_2 : decode cX5_escortOf 2 = .ok (.invokevirtual 148, 3) := by decide +kernel
theorem dX5_escortOf_5 : decode cX5_escortOf 5 = .ok (.astore_n 2, 1) := by decide +kernel
theorem dX5_escortOf_6 : decode cX5_escortOf 6 = .ok (.aload_n 2, 1) := by decide +kernel
theorem dX5_escortOf_7 : decode cX5_escortOf 7 = .ok (.ifnonnull 13, 3) := by decide +kernel
theorem dX5_escortOf_10 : decode cX5_escortOf 10 = .ok (.new 50, 3) := by decide +kernel
theorem dX5_escortOf_13 : decode cX5_escortOf 13 = .ok (.dup, 1) := by decide +kernel
theorem dX5_escortOf_14 : decode cX5_escortOf 14 = .ok (.ldc 152, 2) := by decide +kernel
theorem dX5_escortOf_16 : decode cX5_escortOf 16 = .ok (.invokespecial 54, 3) := by decide +kernel
theorem dX5_escortOf_19 : decode cX5_escortOf 19 = .ok (.athrow, 1) := by decide +kernel
theorem dX5_escortOf_20 : decode cX5_escortOf 20 = .ok (.aload_n 2, 1) := by decide +kernel
theorem dX5_escortOf_21 : decode cX5_escortOf 21 = .ok (.getfield 154, 3) := by decide +kernel
theorem dX5_escortOf_24 : decode cX5_escortOf 24 = .ok (.astore_n 3, 1) := by decide +kernel
theorem dX5_escortOf_25 : decode cX5_escortOf 25 = .ok (.aload_n 3, 1) := by decide +kernel
theorem dX5_escortOf_26 : decode cX5_escortOf 26 = .ok (.ifnonnull 7, 3) := by decide +kernel
theorem dX5_escortOf_29 : decode cX5_escortOf 29 = .ok (.iconst (-1), 1) := by decide +kernel
theorem dX5_escortOf_30 : decode cX5_escortOf 30 = .ok (.goto 7, 3) := by decide +kernel
theorem dX5_escortOf_33 : decode cX5_escortOf 33 = .ok (.aload_n 3, 1) := by decide +kernel
theorem dX5_escortOf_34 : decode cX5_escortOf 34 = .ok (.getfield 180, 3) := by decide +kernel
theorem dX5_escortOf_37 : decode cX5_escortOf 37 = .ok (.ireturn, 1) := by decide +kernel
theorem dX5_dark_0 : decode cX5_dark 0 = .ok (.aload_n 0, 1) := by decide +kernel
theorem dX5_dark_1 : decode cX5_dark 1 = .ok (.iload_n 1, 1) := by decide +kernel
theorem dX5_dark_2 : decode cX5_dark 2 = .ok (.invokevirtual 148, 3) := by decide +kernel
theorem dX5_dark_5 : decode cX5_dark 5 = .ok (.astore_n 2, 1) := by decide +kernel
theorem dX5_dark_6 : decode cX5_dark 6 = .ok (.aload_n 2, 1) := by decide +kernel
theorem dX5_dark_7 : decode cX5_dark 7 = .ok (.ifnonnull 13, 3) := by decide +kernel
theorem dX5_dark_10 : decode cX5_dark 10 = .ok (.new 50, 3) := by decide +kernel
theorem dX5_dark_13 : decode cX5_dark 13 = .ok (.dup, 1) := by decide +kernel
theorem dX5_dark_14 : decode cX5_dark 14 = .ok (.ldc 152, 2) := by decide +kernel
theorem dX5_dark_16 : decode cX5_dark 16 = .ok (.invokespecial 54, 3) := by decide +kernel
theorem dX5_dark_19 : decode cX5_dark 19 = .ok (.athrow, 1) := by decide +kernel
theorem dX5_dark_20 : decode cX5_dark 20 = .ok (.aload_n 2, 1) := by decide +kernel
theorem dX5_dark_21 : decode cX5_dark 21 = .ok (.getfield 183, 3) := by decide +kernel
theorem dX5_dark_24 : decode cX5_dark 24 = .ok (.ireturn, 1) := by decide +kernel
theorem dX5_streetOf_0 : decode cX5_streetOf 0 = .ok (.aload_n 0, 1) := by decide +kernel
theorem dX5_streetOf_1 : decode cX5_streetOf 1 = .ok (.iload_n 1, 1) := by decide +kernel
theorem dX5_streetOf_2 : decode cX5_streetOf 2 = .ok (.invokevirtual 92, 3) := by decide +kernel
theorem dX5_streetOf_5 : decode cX5_streetOf 5 = .ok (.astore_n 2, 1) := by decide +kernel
theorem dX5_streetOf_6 : decode cX5_streetOf 6 = .ok (.aload_n 2, 1) := by decide +kernel
theorem dX5_streetOf_7 : decode cX5_streetOf 7 = .ok (.ifnonnull 13, 3) := by decide +kernel
theorem dX5_streetOf_10 : decode cX5_streetOf 10 = .ok (.new 50, 3) := by decide +kernel
theorem dX5_streetOf_13 : decode cX5_streetOf 13 = .ok (.dup, 1) := by decide +kernel
theorem dX5_streetOf_14 : decode cX5_streetOf 14 = .ok (.ldc 96, 2) := by decide +kernel
theorem dX5_streetOf_16 : decode cX5_streetOf 16 = .ok (.invokespecial 54, 3) := by decide +kernel
theorem dX5_streetOf_19 : decode cX5_streetOf 19 = .ok (.athrow, 1) := by decide +kernel
theorem dX5_streetOf_20 : decode cX5_streetOf 20 = .ok (.aload_n 2, 1) := by decide +kernel
theorem dX5_streetOf_21 : decode cX5_streetOf 21 = .ok (.getfield 107, 3) := by decide +kernel
theorem dX5_streetOf_24 : decode cX5_streetOf 24 = .ok (.ireturn, 1) := by decide +kernel
theorem dX5_rank_0 : decode cX5_rank 0 = .ok (.aload_n 0, 1) := by decide +kernel
theorem dX5_rank_1 : decode cX5_rank 1 = .ok (.iload_n 1, 1) := by decide +kernel
theorem dX5_rank_2 : decode cX5_rank 2 = .ok (.invokevirtual 92, 3) := by decide +kernel
theorem dX5_rank_5 : decode cX5_rank 5 = .ok (.astore_n 2, 1) := by decide +kernel
theorem dX5_rank_6 : decode cX5_rank 6 = .ok (.aload_n 2, 1) := by decide +kernel
theorem dX5_rank_7 : decode cX5_rank 7 = .ok (.ifnonnull 13, 3) := by decide +kernel
theorem dX5_rank_10 : decode cX5_rank 10 = .ok (.new 50, 3) := by decide +kernel
theorem dX5_rank_13 : decode cX5_rank 13 = .ok (.dup, 1) := by decide +kernel
theorem dX5_rank_14 : decode cX5_rank 14 = .ok (.ldc 96, 2) := by decide +kernel
theorem dX5_rank_16 : decode cX5_rank 16 = .ok (.invokespecial 54, 3) := by decide +kernel
theorem dX5_rank_19 : decode cX5_rank 19 = .ok (.athrow, 1) := by decide +kernel
theorem dX5_rank_20 : decode cX5_rank 20 = .ok (.aload_n 2, 1) := by decide +kernel
theorem dX5_rank_21 : decode cX5_rank 21 = .ok (.getfield 168, 3) := by decide +kernel
theorem dX5_rank_24 : decode cX5_rank 24 = .ok (.ireturn, 1) := by decide +kernel
theorem dX5_way_0 : decode cX5_way 0 = .ok (.iload_n 1, 1) := by decide +kernel
theorem dX5_way_1 : decode cX5_way 1 = .ok (.invokestatic 98, 3) := by decide +kernel
theorem dX5_way_4 : decode cX5_way 4 = .ok (.ifCond .eq 10, 3) := by decide +kernel
theorem dX5_way_7 : decode cX5_way 7 = .ok (.iload_n 2, 1) := by decide +kernel
theorem dX5_way_8 : decode cX5_way 8 = .ok (.invokestatic 98, 3) := by decide +kernel
theorem dX5_way_11 : decode cX5_way 11 = .ok (.ifCond .ne 13, 3) := by decide +kernel
theorem dX5_way_14 : decode cX5_way 14 = .ok (.new 50, 3) := by decide +kernel
theorem dX5_way_17 : decode cX5_way 17 = .ok (.dup, 1) := by decide +kernel
theorem dX5_way_18 : decode cX5_way 18 = .ok (.ldc 52, 2) := by decide +kernel
theorem dX5_way_20 : decode cX5_way 20 = .ok (.invokespecial 54, 3) := by decide +kernel
theorem dX5_way_23 : decode cX5_way 23 = .ok (.athrow, 1) := by decide +kernel
theorem dX5_way_24 : decode cX5_way 24 = .ok (.iload_n 1, 1) := by decide +kernel
theorem dX5_way_25 : decode cX5_way 25 = .ok (.iload_n 2, 1) := by decide +kernel
theorem dX5_way_26 : decode cX5_way 26 = .ok (.invokestatic 186, 3) := by decide +kernel
theorem dX5_way_29 : decode cX5_way 29 = .ok (.ireturn, 1) := by decide +kernel
theorem dX5_pictures_0 : decode cX5_pictures 0 = .ok (.aload_n 0, 1) := by decide +kernel
theorem dX5_pictures_1 : decode cX5_pictures 1 = .ok (.getfield 31, 3) := by decide +kernel
theorem dX5_pictures_4 : decode cX5_pictures 4 = .ok (.invokevirtual 189, 3) := by decide +kernel
theorem dX5_pictures_7 : decode cX5_pictures 7 = .ok (.ireturn, 1) := by decide +kernel
theorem dX5_shows_0 : decode cX5_shows 0 = .ok (.iload_n 1, 1) := by decide +kernel
theorem dX5_shows_1 : decode cX5_shows 1 = .ok (.invokestatic 98, 3) := by decide +kernel
theorem dX5_shows_4 : decode cX5_shows 4 = .ok (.ifCond .ne 13, 3) := by decide +kernel
theorem dX5_shows_7 : decode cX5_shows 7 = .ok (.new 50, 3) := by decide +kernel
theorem dX5_shows_10 : decode cX5_shows 10 = .ok (.dup, 1) := by decide +kernel
theorem dX5_shows_11 : decode cX5_shows 11 = .ok (.ldc 52, 2) := by decide +kernel
theorem dX5_shows_13 : decode cX5_shows 13 = .ok (.invokespecial 54, 3) := by decide +kernel
theorem dX5_shows_16 : decode cX5_shows 16 = .ok (.athrow, 1) := by decide +kernel
theorem dX5_shows_17 : decode cX5_shows 17 = .ok (.aload_n 0, 1) := by decide +kernel
theorem dX5_shows_18 : decode cX5_shows 18 = .ok (.iload_n 2, 1) := by decide +kernel
theorem dX5_shows_19 : decode cX5_shows 19 = .ok (.invokevirtual 148, 3) := by decide +kernel
theorem dX5_shows_22 : decode cX5_shows 22 = .ok (.ifnonnull 13, 3) := by decide +kernel
theorem dX5_shows_25 : decode cX5_shows 25 = .ok (.new 50, 3) := by decide +kernel
theorem dX5_shows_28 : decode cX5_shows 28 = .ok (.dup, 1) := by decide +kernel
theorem dX5_shows_29 : decode cX5_shows 29 = .ok (.ldc 152, 2) := by decide +kernel
theorem dX5_shows_31 : decode cX5_shows 31 = .ok (.invokespecial 54, 3) := by decide +kernel
theorem dX5_shows_34 : decode cX5_shows 34 = .ok (.athrow, 1) := by decide +kernel
theorem dX5_shows_35 : decode cX5_shows 35 = .ok (.aload_n 0, 1) := by decide +kernel
theorem dX5_shows_36 : decode cX5_shows 36 = .ok (.getfield 31, 3) := by decide +kernel
theorem dX5_shows_39 : decode cX5_shows 39 = .ok (.iload_n 1, 1) := by decide +kernel
theorem dX5_shows_40 : decode cX5_shows 40 = .ok (.iload_n 2, 1) := by decide +kernel
theorem dX5_shows_41 : decode cX5_shows 41 = .ok (.iload_n 3, 1) := by decide +kernel
theorem dX5_shows_42 : decode cX5_shows 42 = .ok (.invokevirtual 192, 3) := by decide +kernel
theorem dX5_shows_45 : decode cX5_shows 45 = .ok (.ireturn, 1) := by decide +kernel
theorem dX5_showsByPapers_0 : decode cX5_showsByPapers 0 = .ok (.iload_n 1, 1) := by decide +kernel
theorem dX5_showsByPapers_1 : decode cX5_showsByPapers 1 = .ok (.invokestatic 98, 3) := by decide +kernel
theorem dX5_showsByPapers_4 : decode cX5_showsByPapers 4 = .ok (.ifCond .ne 13, 3) := by decide +kernel
theorem dX5_showsByPapers_7 : decode cX5_showsByPapers 7 = .ok (.new 50, 3) := by decide +kernel
theorem dX5_showsByPapers_10 : decode cX5_showsByPapers 10 = .ok (.dup, 1) := by decide +kernel
theorem dX5_showsByPapers_11 : decode cX5_showsByPapers 11 = .ok (.ldc 52, 2) := by decide +kernel
theorem dX5_showsByPapers_13 : decode cX5_showsByPapers 13 = .ok (.invokespecial 54, 3) := by decide +kernel
theorem dX5_showsByPapers_16 : decode cX5_showsByPapers 16 = .ok (.athrow, 1) := by decide +kernel
theorem dX5_showsByPapers_17 : decode cX5_showsByPapers 17 = .ok (.aload_n 0, 1) := by decide +kernel
theorem dX5_showsByPapers_18 : decode cX5_showsByPapers 18 = .ok (.iload_n 2, 1) := by decide +kernel
theorem dX5_showsByPapers_19 : decode cX5_showsByPapers 19 = .ok (.invokevirtual 148, 3) := by decide +kernel
theorem dX5_showsByPapers_22 : decode cX5_showsByPapers 22 = .ok (.ifnonnull 13, 3) := by decide +kernel
theorem dX5_showsByPapers_25 : decode cX5_showsByPapers 25 = .ok (.new 50, 3) := by decide +kernel
theorem dX5_showsByPapers_28 : decode cX5_showsByPapers 28 = .ok (.dup, 1) := by decide +kernel
theorem dX5_showsByPapers_29 : decode cX5_showsByPapers 29 = .ok (.ldc 152, 2) := by decide +kernel
theorem dX5_showsByPapers_31 : decode cX5_showsByPapers 31 = .ok (.invokespecial 54, 3) := by decide +kernel
theorem dX5_showsByPapers_34 : decode cX5_showsByPapers 34 = .ok (.athrow, 1) := by decide +kernel
theorem dX5_showsByPapers_35 : decode cX5_showsByPapers 35 = .ok (.aload_n 0, 1) := by decide +kernel
theorem dX5_showsByPapers_36 : decode cX5_showsByPapers 36 = .ok (.getfield 31, 3) := by decide +kernel
theorem dX5_showsByPapers_39 : decode cX5_showsByPapers 39 = .ok (.iload_n 1, 1) := by decide +kernel
theorem dX5_showsByPapers_40 : decode cX5_showsByPapers 40 = .ok (.iload_n 2, 1) := by decide +kernel
theorem dX5_showsByPapers_41 : decode cX5_showsByPapers 41 = .ok (.iload_n 3, 1) := by decide +kernel
theorem dX5_showsByPapers_42 : decode cX5_showsByPapers 42 = .ok (.aload_n 0, 1) := by decide +kernel
theorem dX5_showsByPapers_43 : decode cX5_showsByPapers 43 = .ok (.getfield 35, 3) := by decide +kernel
theorem dX5_showsByPapers_46 : decode cX5_showsByPapers 46 = .ok (.invokevirtual 196, 3) := by decide +kernel
theorem dX5_showsByPapers_49 : decode cX5_showsByPapers 49 = .ok (.ireturn, 1) := by decide +kernel
theorem dX5_taken_0 : decode cX5_taken 0 = .ok (.aload_n 0, 1) := by decide +kernel
theorem dX5_taken_1 : decode cX5_taken 1 = .ok (.getfield 31, 3) := by decide +kernel
theorem dX5_taken_4 : decode cX5_taken 4 = .ok (.invokevirtual 200, 3) := by decide +kernel
theorem dX5_taken_7 : decode cX5_taken 7 = .ok (.ireturn, 1) := by decide +kernel
theorem dX5_isStreet_0 : decode cX5_isStreet 0 = .ok (.iload_n 0, 1) := by decide +kernel
theorem dX5_isStreet_1 : decode cX5_isStreet 1 = .ok (.ifCond .lt 13, 3) := by decide +kernel
theorem dX5_isStreet_4 : decode cX5_isStreet 4 = .ok (.iload_n 0, 1) := by decide +kernel
theorem dX5_isStreet_5 : decode cX5_isStreet 5 = .ok (.bipush 8, 2) := by decide +kernel
theorem dX5_isStreet_7 : decode cX5_isStreet 7 = .ok (.if_icmp .ge 7, 3) := by decide +kernel
theorem dX5_isStreet_10 : decode cX5_isStreet 10 = .ok (.iconst 1, 1) := by decide +kernel
theorem dX5_isStreet_11 : decode cX5_isStreet 11 = .ok (.goto 4, 3) := by decide +kernel
theorem dX5_isStreet_14 : decode cX5_isStreet 14 = .ok (.iconst 0, 1) := by decide +kernel
theorem dX5_isStreet_15 : decode cX5_isStreet 15 = .ok (.ireturn, 1) := by decide +kernel
theorem dX5_findStreet_0 : decode cX5_findStreet 0 = .ok (.iload_n 1, 1) := by decide +kernel
theorem dX5_findStreet_1 : decode cX5_findStreet 1 = .ok (.ifCond .lt 12, 3) := by decide +kernel
theorem dX5_findStreet_4 : decode cX5_findStreet 4 = .ok (.iload_n 1, 1) := by decide +kernel
theorem dX5_findStreet_5 : decode cX5_findStreet 5 = .ok (.aload_n 0, 1) := by decide +kernel
theorem dX5_findStreet_6 : decode cX5_findStreet 6 = .ok (.getfield 11, 3) := by decide +kernel
theorem dX5_findStreet_9 : decode cX5_findStreet 9 = .ok (.arraylength, 1) := by decide +kernel
theorem dX5_findStreet_10 : decode cX5_findStreet 10 = .ok (.if_icmp .lt 7, 3) := by decide +kernel
theorem dX5_findStreet_13 : decode cX5_findStreet 13 = .ok (.aconst_null, 1) := by decide +kernel
theorem dX5_findStreet_14 : decode cX5_findStreet 14 = .ok (.goto 9, 3) := by decide +kernel
theorem dX5_findStreet_17 : decode cX5_findStreet 17 = .ok (.aload_n 0, 1) := by decide +kernel
theorem dX5_findStreet_18 : decode cX5_findStreet 18 = .ok (.getfield 11, 3) := by decide +kernel
theorem dX5_findStreet_21 : decode cX5_findStreet 21 = .ok (.iload_n 1, 1) := by decide +kernel
theorem dX5_findStreet_22 : decode cX5_findStreet 22 = .ok (.aaload, 1) := by decide +kernel
theorem dX5_findStreet_23 : decode cX5_findStreet 23 = .ok (.areturn, 1) := by decide +kernel
theorem dX5_findEscort_0 : decode cX5_findEscort 0 = .ok (.iload_n 1, 1) := by decide +kernel
theorem dX5_findEscort_1 : decode cX5_findEscort 1 = .ok (.ifCond .lt 12, 3) := by decide +kernel
theorem dX5_findEscort_4 : decode cX5_findEscort 4 = .ok (.iload_n 1, 1) := by decide +kernel
theorem dX5_findEscort_5 : decode cX5_findEscort 5 = .ok (.aload_n 0, 1) := by decide +kernel
theorem dX5_findEscort_6 : decode cX5_findEscort 6 = .ok (.getfield 17, 3) := by decide +kernel
theorem dX5_findEscort_9 : decode cX5_findEscort 9 = .ok (.arraylength, 1) := by decide +kernel
theorem dX5_findEscort_10 : decode cX5_findEscort 10 = .ok (.if_icmp .lt 7, 3) := by decide +kernel
theorem dX5_findEscort_13 : decode cX5_findEscort 13 = .ok (.aconst_null, 1) := by decide +kernel
theorem dX5_findEscort_14 : decode cX5_findEscort 14 = .ok (.goto 9, 3) := by decide +kernel
theorem dX5_findEscort_17 : decode cX5_findEscort 17 = .ok (.aload_n 0, 1) := by decide +kernel
theorem dX5_findEscort_18 : decode cX5_findEscort 18 = .ok (.getfield 17, 3) := by decide +kernel
theorem dX5_findEscort_21 : decode cX5_findEscort 21 = .ok (.iload_n 1, 1) := by decide +kernel
theorem dX5_findEscort_22 : decode cX5_findEscort 22 = .ok (.aaload, 1) := by decide +kernel
theorem dX5_findEscort_23 : decode cX5_findEscort 23 = .ok (.areturn, 1) := by decide +kernel
theorem dX5_findWalk_0 : decode cX5_findWalk 0 = .ok (.iload_n 1, 1) := by decide +kernel
theorem dX5_findWalk_1 : decode cX5_findWalk 1 = .ok (.ifCond .lt 14, 3) := by decide +kernel
theorem dX5_findWalk_4 : decode cX5_findWalk 4 = .ok (.iload_n 1, 1) := by decide +kernel
theorem dX5_findWalk_5 : decode cX5_findWalk 5 = .ok (.aload_n 0, 1) := by decide +kernel
theorem dX5_findWalk_6 : decode cX5_findWalk 6 = .ok (.getfield 24, 3) := by decide +kernel
theorem dX5_findWalk_9 : decode cX5_findWalk 9 = .ok (.invokevirtual 112, 3) := by decide +kernel
theorem dX5_findWalk_12 : decode cX5_findWalk 12 = .ok (.if_icmp .lt 7, 3) := by decide +kernel
theorem dX5_findWalk_15 : decode cX5_findWalk 15 = .ok (.aconst_null, 1) := by decide +kernel
theorem dX5_findWalk_16 : decode cX5_findWalk 16 = .ok (.goto 14, 3) := by decide +kernel
theorem dX5_findWalk_19 : decode cX5_findWalk 19 = .ok (.aload_n 0, 1) := by decide +kernel
theorem dX5_findWalk_20 : decode cX5_findWalk 20 = .ok (.getfield 24, 3) := by decide +kernel
theorem dX5_findWalk_23 : decode cX5_findWalk 23 = .ok (.iload_n 1, 1) := by decide +kernel
theorem dX5_findWalk_24 : decode cX5_findWalk 24 = .ok (.invokevirtual 203, 3) := by decide +kernel
theorem dX5_findWalk_27 : decode cX5_findWalk 27 = .ok (.checkcast 117, 3) := by decide +kernel
theorem dX5_findWalk_30 : decode cX5_findWalk 30 = .ok (.areturn, 1) := by decide +kernel
theorem dX5_stepsUp_0 : decode cX5_stepsUp 0 = .ok (.iload_n 1, 1) := by decide +kernel
theorem dX5_stepsUp_1 : decode cX5_stepsUp 1 = .ok (.iload_n 0, 1) := by decide +kernel
theorem dX5_stepsUp_2 : decode cX5_stepsUp 2 = .ok (.isub, 1) := by decide +kernel
theorem dX5_stepsUp_3 : decode cX5_stepsUp 3 = .ok (.bipush 8, 2) := by decide +kernel
theorem dX5_stepsUp_5 : decode cX5_stepsUp 5 = .ok (.invokestatic 207, 3) := by decide +kernel
theorem dX5_stepsUp_8 : decode cX5_stepsUp 8 = .ok (.ireturn, 1) := by decide +kernel
theorem dX5_distance_0 : decode cX5_distance 0 = .ok (.iload_n 0, 1) := by decide +kernel
theorem dX5_distance_1 : decode cX5_distance 1 = .ok (.iload_n 1, 1) := by decide +kernel
theorem dX5_distance_2 : decode cX5_distance 2 = .ok (.invokestatic 210, 3) := by decide +kernel
theorem dX5_distance_5 : decode cX5_distance 5 = .ok (.istore_n 2, 1) := by decide +kernel
theorem dX5_distance_6 : decode cX5_distance 6 = .ok (.iload_n 2, 1) := by decide +kernel
theorem dX5_distance_7 : decode cX5_distance 7 = .ok (.bipush 8, 2) := by decide +kernel
theorem dX5_distance_9 : decode cX5_distance 9 = .ok (.iload_n 2, 1) := by decide +kernel
theorem dX5_distance_10 : decode cX5_distance 10 = .ok (.isub, 1) := by decide +kernel
theorem dX5_distance_11 : decode cX5_distance 11 = .ok (.invokestatic 171, 3) := by decide +kernel
theorem dX5_distance_14 : decode cX5_distance 14 = .ok (.ireturn, 1) := by decide +kernel
theorem dX5_oneStepOn_0 : decode cX5_oneStepOn 0 = .ok (.iload_n 0, 1) := by decide +kernel
theorem dX5_oneStepOn_1 : decode cX5_oneStepOn 1 = .ok (.iload_n 1, 1) := by decide +kernel
theorem dX5_oneStepOn_2 : decode cX5_oneStepOn 2 = .ok (.invokestatic 210, 3) := by decide +kernel
theorem dX5_oneStepOn_5 : decode cX5_oneStepOn 5 = .ok (.istore_n 2, 1) := by decide +kernel
theorem dX5_oneStepOn_6 : decode cX5_oneStepOn 6 = .ok (.iload_n 2, 1) := by decide +kernel
theorem dX5_oneStepOn_7 : decode cX5_oneStepOn 7 = .ok (.ifCond .ne 5, 3) := by decide +kernel
theorem dX5_oneStepOn_10 : decode cX5_oneStepOn 10 = .ok (.iload_n 0, 1) := by decide +kernel
theorem dX5_oneStepOn_11 : decode cX5_oneStepOn 11 = .ok (.ireturn, 1) := by decide +kernel
theorem dX5_oneStepOn_12 : decode cX5_oneStepOn 12 = .ok (.iload_n 2, 1) := by decide +kernel
theorem dX5_oneStepOn_13 : decode cX5_oneStepOn 13 = .ok (.bipush 8, 2) := by decide +kernel
theorem dX5_oneStepOn_15 : decode cX5_oneStepOn 15 = .ok (.iload_n 2, 1) := by decide +kernel
theorem dX5_oneStepOn_16 : decode cX5_oneStepOn 16 = .ok (.isub, 1) := by decide +kernel
theorem dX5_oneStepOn_17 : decode cX5_oneStepOn 17 = .ok (.if_icmp .gt 9, 3) := by decide +kernel
theorem dX5_oneStepOn_20 : decode cX5_oneStepOn 20 = .ok (.iload_n 0, 1) := by decide +kernel
theorem dX5_oneStepOn_21 : decode cX5_oneStepOn 21 = .ok (.iconst 1, 1) := by decide +kernel
theorem dX5_oneStepOn_22 : decode cX5_oneStepOn 22 = .ok (.iadd, 1) := by decide +kernel
theorem dX5_oneStepOn_23 : decode cX5_oneStepOn 23 = .ok (.goto 6, 3) := by decide +kernel
theorem dX5_oneStepOn_26 : decode cX5_oneStepOn 26 = .ok (.iload_n 0, 1) := by decide +kernel
theorem dX5_oneStepOn_27 : decode cX5_oneStepOn 27 = .ok (.iconst 1, 1) := by decide +kernel
theorem dX5_oneStepOn_28 : decode cX5_oneStepOn 28 = .ok (.isub, 1) := by decide +kernel
theorem dX5_oneStepOn_29 : decode cX5_oneStepOn 29 = .ok (.bipush 8, 2) := by decide +kernel
theorem dX5_oneStepOn_31 : decode cX5_oneStepOn 31 = .ok (.invokestatic 207, 3) := by decide +kernel
theorem dX5_oneStepOn_34 : decode cX5_oneStepOn 34 = .ok (.ireturn, 1) := by decide +kernel
theorem dX5_giveEscorts_0 : decode cX5_giveEscorts 0 = .ok (.iconst 0, 1) := by decide +kernel
theorem dX5_giveEscorts_1 : decode cX5_giveEscorts 1 = .ok (.istore_n 1, 1) := by decide +kernel
theorem dX5_giveEscorts_2 : decode cX5_giveEscorts 2 = .ok (.iload_n 1, 1) := by decide +kernel
theorem dX5_giveEscorts_3 : decode cX5_giveEscorts 3 = .ok (.aload_n 0, 1) := by decide +kernel
theorem dX5_giveEscorts_4 : decode cX5_giveEscorts 4 = .ok (.getfield 24, 3) := by decide +kernel
theorem dX5_giveEscorts_7 : decode cX5_giveEscorts 7 = .ok (.invokevirtual 112, 3) := by decide +kernel
theorem dX5_giveEscorts_10 : decode cX5_giveEscorts 10 = .ok (.if_icmp .ge 57, 3) := by decide +kernel
theorem dX5_giveEscorts_13 : decode cX5_giveEscorts 13 = .ok (.aload_n 0, 1) := by decide +kernel
theorem dX5_giveEscorts_14 : decode cX5_giveEscorts 14 = .ok (.getfield 24, 3) := by decide +kernel
theorem dX5_giveEscorts_17 : decode cX5_giveEscorts 17 = .ok (.iload_n 1, 1) := by decide +kernel
theorem dX5_giveEscorts_18 : decode cX5_giveEscorts 18 = .ok (.invokevirtual 203, 3) := by decide +kernel
theorem dX5_giveEscorts_21 : decode cX5_giveEscorts 21 = .ok (.checkcast 117, 3) := by decide +kernel
theorem dX5_giveEscorts_24 : decode cX5_giveEscorts 24 = .ok (.astore_n 2, 1) := by decide +kernel
theorem dX5_giveEscorts_25 : decode cX5_giveEscorts 25 = .ok (.aload_n 2, 1) := by decide +kernel
theorem dX5_giveEscorts_26 : decode cX5_giveEscorts 26 = .ok (.getfield 158, 3) := by decide +kernel
theorem dX5_giveEscorts_29 : decode cX5_giveEscorts 29 = .ok (.ifCond .ne 32, 3) := by decide +kernel
theorem dX5_giveEscorts_32 : decode cX5_giveEscorts 32 = .ok (.aload_n 0, 1) := by decide +kernel
theorem dX5_giveEscorts_33 : decode cX5_giveEscorts 33 = .ok (.aload_n 2, 1) := by decide +kernel
theorem dX5_giveEscorts_34 : decode cX5_giveEscorts 34 = .ok (.getfield 213, 3) := by decide +kernel
theorem dX5_giveEscorts_37 : decode cX5_giveEscorts 37 = .ok (.invokevirtual 216, 3) := by decide +kernel
theorem dX5_giveEscorts_40 : decode cX5_giveEscorts 40 = .ok (.astore_n 3, 1) := by decide +kernel
theorem dX5_giveEscorts_41 : decode cX5_giveEscorts 41 = .ok (.aload_n 3, 1) := by decide +kernel
theorem dX5_giveEscorts_42 : decode cX5_giveEscorts 42 = .ok (.ifnonnull 4, 3) := by decide +kernel
theorem dX5_giveEscorts_45 : decode cX5_giveEscorts 45 = .ok (.return_, 1) := by decide +kernel
theorem dX5_giveEscorts_46 : decode cX5_giveEscorts 46 = .ok (.aload_n 3, 1) := by decide +kernel
theorem dX5_giveEscorts_47 : decode cX5_giveEscorts 47 = .ok (.iconst 0, 1) := by decide +kernel
theorem dX5_giveEscorts_48 : decode cX5_giveEscorts 48 = .ok (.putfield 102, 3) := by decide +kernel
theorem dX5_giveEscorts_51 : decode cX5_giveEscorts 51 = .ok (.aload_n 2, 1) := by decide +kernel
theorem dX5_giveEscorts_52 : decode cX5_giveEscorts 52 = .ok (.aload_n 3, 1) := by decide +kernel
theorem dX5_giveEscorts_53 : decode cX5_giveEscorts 53 = .ok (.putfield 154, 3) := by decide +kernel
theorem dX5_giveEscorts_56 : decode cX5_giveEscorts 56 = .ok (.aload_n 2, 1) := by decide +kernel
theorem dX5_giveEscorts_57 : decode cX5_giveEscorts 57 = .ok (.iconst 1, 1) := by decide +kernel
theorem dX5_giveEscorts_58 : decode cX5_giveEscorts 58 = .ok (.putfield 158, 3) := by decide +kernel
theorem dX5_giveEscorts_61 : decode cX5_giveEscorts 61 = .ok (.iinc 1 1, 3) := by decide +kernel
theorem dX5_giveEscorts_64 : decode cX5_giveEscorts 64 = .ok (.goto (-62), 3) := by decide +kernel
theorem dX5_giveEscorts_67 : decode cX5_giveEscorts 67 = .ok (.return_, 1) := by decide +kernel
theorem dX5_bestFreeEscort_0 : decode cX5_bestFreeEscort 0 = .ok (.aconst_null, 1) := by decide +kernel
theorem dX5_bestFreeEscort_1 : decode cX5_bestFreeEscort 1 = .ok (.astore_n 2, 1) := by decide +kernel
theorem dX5_bestFreeEscort_2 : decode cX5_bestFreeEscort 2 = .ok (.iconst 0, 1) := by decide +kernel
theorem dX5_bestFreeEscort_3 : decode cX5_bestFreeEscort 3 = .ok (.istore_n 3, 1) := by decide +kernel
theorem dX5_bestFreeEscort_4 : decode cX5_bestFreeEscort 4 = .ok (.iload_n 3, 1) := by decide +kernel
theorem dX5_bestFreeEscort_5 : decode cX5_bestFreeEscort 5 = .ok (.aload_n 0, 1) := by decide +kernel
theorem dX5_bestFreeEscort_6 : decode cX5_bestFreeEscort 6 = .ok (.getfield 17, 3) := by decide +kernel
theorem dX5_bestFreeEscort_9 : decode cX5_bestFreeEscort 9 = .ok (.arraylength, 1) := by decide +kernel
theorem dX5_bestFreeEscort_10 : decode cX5_bestFreeEscort 10 = .ok (.if_icmp .ge 47, 3) := by decide +kernel
theorem dX5_bestFreeEscort_13 : decode cX5_bestFreeEscort 13 = .ok (.aload_n 0, 1) := by decide +kernel
theorem dX5_bestFreeEscort_14 : decode cX5_bestFreeEscort 14 = .ok (.getfield 17, 3) := by decide +kernel
theorem dX5_bestFreeEscort_17 : decode cX5_bestFreeEscort 17 = .ok (.iload_n 3, 1) := by decide +kernel
theorem dX5_bestFreeEscort_18 : decode cX5_bestFreeEscort 18 = .ok (.aaload, 1) := by decide +kernel
theorem dX5_bestFreeEscort_19 : decode cX5_bestFreeEscort 19 = .ok (.astore 4, 2) := by decide +kernel
theorem dX5_bestFreeEscort_21 : decode cX5_bestFreeEscort 21 = .ok (.aload 4, 2) := by decide +kernel
theorem dX5_bestFreeEscort_23 : decode cX5_bestFreeEscort 23 = .ok (.ifnull 28, 3) := by decide +kernel
theorem dX5_bestFreeEscort_26 : decode cX5_bestFreeEscort 26 = .ok (.aload 4, 2) := by decide +kernel
theorem dX5_bestFreeEscort_28 : decode cX5_bestFreeEscort 28 = .ok (.getfield 102, 3) := by decide +kernel
theorem dX5_bestFreeEscort_31 : decode cX5_bestFreeEscort 31 = .ok (.ifCond .eq 20, 3) := by decide +kernel
theorem dX5_bestFreeEscort_34 : decode cX5_bestFreeEscort 34 = .ok (.aload_n 2, 1) := by decide +kernel
theorem dX5_bestFreeEscort_35 : decode cX5_bestFreeEscort 35 = .ok (.ifnull 13, 3) := by decide +kernel
theorem dX5_bestFreeEscort_38 : decode cX5_bestFreeEscort 38 = .ok (.aload 4, 2) := by decide +kernel
theorem dX5_bestFreeEscort_40 : decode cX5_bestFreeEscort 40 = .ok (.aload_n 2, 1) := by decide +kernel
theorem dX5_bestFreeEscort_41 : decode cX5_bestFreeEscort 41 = .ok (.iload_n 1, 1) := by decide +kernel
theorem dX5_bestFreeEscort_42 : decode cX5_bestFreeEscort 42 = .ok (.invokestatic 219, 3) := by decide +kernel
theorem dX5_bestFreeEscort_45 : decode cX5_bestFreeEscort 45 = .ok (.ifCond .eq 6, 3) := by decide +kernel
theorem dX5_bestFreeEscort_48 : decode cX5_bestFreeEscort 48 = .ok (.aload 4, 2) := by decide +kernel
theorem dX5_bestFreeEscort_50 : decode cX5_bestFreeEscort 50 = .ok (.astore_n 2, 1) := by decide +kernel
theorem dX5_bestFreeEscort_51 : decode cX5_bestFreeEscort 51 = .ok (.iinc 3 1, 3) := by decide +kernel
theorem dX5_bestFreeEscort_54 : decode cX5_bestFreeEscort 54 = .ok (.goto (-50), 3) := by decide +kernel
theorem dX5_bestFreeEscort_57 : decode cX5_bestFreeEscort 57 = .ok (.aload_n 2, 1) := by decide +kernel
theorem dX5_bestFreeEscort_58 : decode cX5_bestFreeEscort 58 = .ok (.areturn, 1) := by decide +kernel
theorem dX5_isBetter_0 : decode cX5_isBetter 0 = .ok (.aload_n 0, 1) := by decide +kernel
theorem dX5_isBetter_1 : decode cX5_isBetter 1 = .ok (.getfield 107, 3) := by decide +kernel
theorem dX5_isBetter_4 : decode cX5_isBetter 4 = .ok (.iload_n 2, 1) := by decide +kernel
theorem dX5_isBetter_5 : decode cX5_isBetter 5 = .ok (.invokestatic 186, 3) := by decide +kernel
theorem dX5_isBetter_8 : decode cX5_isBetter 8 = .ok (.istore_n 3, 1) := by decide +kernel
theorem dX5_isBetter_9 : decode cX5_isBetter 9 = .ok (.aload_n 1, 1) := by decide +kernel
theorem dX5_isBetter_10 : decode cX5_isBetter 10 = .ok (.getfield 107, 3) := by decide +kernel
theorem dX5_isBetter_13 : decode cX5_isBetter 13 = .ok (.iload_n 2, 1) := by decide +kernel
theorem dX5_isBetter_14 : decode cX5_isBetter 14 = .ok (.invokestatic 186, 3) := by decide +kernel
theorem dX5_isBetter_17 : decode cX5_isBetter 17 = .ok (.istore 4, 2) := by decide +kernel
theorem dX5_isBetter_19 : decode cX5_isBetter 19 = .ok (.iload_n 3, 1) := by decide +kernel
theorem dX5_isBetter_20 : decode cX5_isBetter 20 = .ok (.iload 4, 2) := by decide +kernel
theorem dX5_isBetter_22 : decode cX5_isBetter 22 = .ok (.if_icmp .lt 20, 3) := by decide +kernel
theorem dX5_isBetter_25 : decode cX5_isBetter 25 = .ok (.iload_n 3, 1) := by decide +kernel
theorem dX5_isBetter_26 : decode cX5_isBetter 26 = .ok (.iload 4, 2) := by decide +kernel
theorem dX5_isBetter_28 : decode cX5_isBetter 28 = .ok (.if_icmp .ne 18, 3) := by decide +kernel
theorem dX5_isBetter_31 : decode cX5_isBetter 31 = .ok (.aload_n 0, 1) := by decide +kernel
theorem dX5_isBetter_32 : decode cX5_isBetter 32 = .ok (.getfield 168, 3) := by decide +kernel
theorem dX5_isBetter_35 : decode cX5_isBetter 35 = .ok (.aload_n 1, 1) := by decide +kernel
theorem dX5_isBetter_36 : decode cX5_isBetter 36 = .ok (.getfield 168, 3) := by decide +kernel
theorem dX5_isBetter_39 : decode cX5_isBetter 39 = .ok (.if_icmp .le 7, 3) := by decide +kernel
theorem dX5_isBetter_42 : decode cX5_isBetter 42 = .ok (.iconst 1, 1) := by decide +kernel
theorem dX5_isBetter_43 : decode cX5_isBetter 43 = .ok (.goto 4, 3) := by decide +kernel
theorem dX5_isBetter_46 : decode cX5_isBetter 46 = .ok (.iconst 0, 1) := by decide +kernel
theorem dX5_isBetter_47 : decode cX5_isBetter 47 = .ok (.ireturn, 1) := by decide +kernel
theorem dX5_goOn_0 : decode cX5_goOn 0 = .ok (.iconst 0, 1) := by decide +kernel
theorem dX5_goOn_1 : decode cX5_goOn 1 = .ok (.istore_n 1, 1) := by decide +kernel
theorem dX5_goOn_2 : decode cX5_goOn 2 = .ok (.iconst 0, 1) := by decide +kernel
theorem dX5_goOn_3 : decode cX5_goOn 3 = .ok (.istore_n 2, 1) := by decide +kernel
theorem dX5_goOn_4 : decode cX5_goOn 4 = .ok (.iload_n 2, 1) := by decide +kernel
theorem dX5_goOn_5 : decode cX5_goOn 5 = .ok (.aload_n 0, 1) := by decide +kernel
theorem dX5_goOn_6 : decode cX5_goOn 6 = .ok (.getfield 24, 3) := by decide +kernel
theorem dX5_goOn_9 : decode cX5_goOn 9 = .ok (.invokevirtual 112, 3) := by decide +kernel
theorem dX5_goOn_12 : decode cX5_goOn 12 = .ok (.if_icmp .ge 73, 3) := by decide +kernel
theorem dX5_goOn_15 : decode cX5_goOn 15 = .ok (.aload_n 0, 1) := by decide +kernel
theorem dX5_goOn_16 : decode cX5_goOn 16 = .ok (.getfield 24, 3) := by decide +kernel
theorem dX5_goOn_19 : decode cX5_goOn 19 = .ok (.iload_n 2, 1) := by decide +kernel
theorem dX5_goOn_20 : decode cX5_goOn 20 = .ok (.invokevirtual 203, 3) := by decide +kernel
theorem dX5_goOn_23 : decode cX5_goOn 23 = .ok (.checkcast 117, 3) := by decide +kernel
theorem dX5_goOn_26 : decode cX5_goOn 26 = .ok (.astore_n 3, 1) := by decide +kernel
theorem dX5_goOn_27 : decode cX5_goOn 27 = .ok (.aload_n 3, 1) := by decide +kernel
theorem dX5_goOn_28 : decode cX5_goOn 28 = .ok (.getfield 154, 3) := by decide +kernel
theorem dX5_goOn_31 : decode cX5_goOn 31 = .ok (.astore 4, 2) := by decide +kernel
theorem dX5_goOn_33 : decode cX5_goOn 33 = .ok (.aload 4, 2) := by decide +kernel
theorem dX5_goOn_35 : decode cX5_goOn 35 = .ok (.ifnull 44, 3) := by decide +kernel
theorem dX5_goOn_38 : decode cX5_goOn 38 = .ok (.aload_n 3, 1) := by decide +kernel
theorem dX5_goOn_39 : decode cX5_goOn 39 = .ok (.getfield 158, 3) := by decide +kernel
theorem dX5_goOn_42 : decode cX5_goOn 42 = .ok (.iconst 3, 1) := by decide +kernel
theorem dX5_goOn_43 : decode cX5_goOn 43 = .ok (.if_icmp .eq 36, 3) := by decide +kernel
theorem dX5_goOn_46 : decode cX5_goOn 46 = .ok (.aload_n 3, 1) := by decide +kernel
theorem dX5_goOn_47 : decode cX5_goOn 47 = .ok (.aload 4, 2) := by decide +kernel
theorem dX5_goOn_49 : decode cX5_goOn 49 = .ok (.invokestatic 223, 3) := by decide +kernel
theorem dX5_goOn_52 : decode cX5_goOn 52 = .ok (.aload_n 3, 1) := by decide +kernel
theorem dX5_goOn_53 : decode cX5_goOn 53 = .ok (.getfield 158, 3) := by decide +kernel
theorem dX5_goOn_56 : decode cX5_goOn 56 = .ok (.iconst 2, 1) := by decide +kernel
theorem dX5_goOn_57 : decode cX5_goOn 57 = .ok (.if_icmp .ne 22, 3) := by decide +kernel
theorem dX5_goOn_60 : decode cX5_goOn 60 = .ok (.aload_n 0, 1) := by decide +kernel
theorem dX5_goOn_61 : decode cX5_goOn 61 = .ok (.aload_n 3, 1) := by decide +kernel
theorem dX5_goOn_62 : decode cX5_goOn 62 = .ok (.aload 4, 2) := by decide +kernel
theorem dX5_goOn_64 : decode cX5_goOn 64 = .ok (.getfield 107, 3) := by decide +kernel
theorem dX5_goOn_67 : decode cX5_goOn 67 = .ok (.invokevirtual 227, 3) := by decide +kernel
theorem dX5_goOn_70 : decode cX5_goOn 70 = .ok (.iload_n 1, 1) := by decide +kernel
theorem dX5_goOn_71 : decode cX5_goOn 71 = .ok (.aload_n 3, 1) := by decide +kernel
theorem dX5_goOn_72 : decode cX5_goOn 72 = .ok (.aload 4, 2) := by decide +kernel
theorem dX5_goOn_74 : decode cX5_goOn 74 = .ok (.invokestatic 231, 3) := by decide +kernel
theorem dX5_goOn_77 : decode cX5_goOn 77 = .ok (.iadd, 1) := by decide +kernel
theorem dX5_goOn_78 : decode cX5_goOn 78 = .ok (.istore_n 1, 1) := by decide +kernel
theorem dX5_goOn_79 : decode cX5_goOn 79 = .ok (.iinc 2 1, 3) := by decide +kernel
theorem dX5_goOn_82 : decode cX5_goOn 82 = .ok (.goto (-78), 3) := by decide +kernel
theorem dX5_goOn_85 : decode cX5_goOn 85 = .ok (.iload_n 1, 1) := by decide +kernel
theorem dX5_goOn_86 : decode cX5_goOn 86 = .ok (.ireturn, 1) := by decide +kernel
theorem dX5_move_0 : decode cX5_move 0 = .ok (.aload_n 0, 1) := by decide +kernel
theorem dX5_move_1 : decode cX5_move 1 = .ok (.getfield 158, 3) := by decide +kernel
theorem dX5_move_4 : decode cX5_move 4 = .ok (.iconst 2, 1) := by decide +kernel
theorem dX5_move_5 : decode cX5_move 5 = .ok (.if_icmp .ne 19, 3) := by decide +kernel
theorem dX5_move_8 : decode cX5_move 8 = .ok (.aload_n 1, 1) := by decide +kernel
theorem dX5_move_9 : decode cX5_move 9 = .ok (.aload_n 1, 1) := by decide +kernel
theorem dX5_move_10 : decode cX5_move 10 = .ok (.getfield 107, 3) := by decide +kernel
theorem dX5_move_13 : decode cX5_move 13 = .ok (.aload_n 0, 1) := by decide +kernel
theorem dX5_move_14 : decode cX5_move 14 = .ok (.getfield 235, 3) := by decide +kernel
theorem dX5_move_17 : decode cX5_move 17 = .ok (.invokestatic 238, 3) := by decide +kernel
theorem dX5_move_20 : decode cX5_move 20 = .ok (.putfield 107, 3) := by decide +kernel
theorem dX5_move_23 : decode cX5_move 23 = .ok (.return_, 1) := by decide +kernel
theorem dX5_move_24 : decode cX5_move 24 = .ok (.aload_n 1, 1) := by decide +kernel
theorem dX5_move_25 : decode cX5_move 25 = .ok (.aload_n 1, 1) := by decide +kernel
theorem dX5_move_26 : decode cX5_move 26 = .ok (.getfield 107, 3) := by decide +kernel
theorem dX5_move_29 : decode cX5_move 29 = .ok (.aload_n 0, 1) := by decide +kernel
theorem dX5_move_30 : decode cX5_move 30 = .ok (.getfield 213, 3) := by decide +kernel
theorem dX5_move_33 : decode cX5_move 33 = .ok (.invokestatic 238, 3) := by decide +kernel
theorem dX5_move_36 : decode cX5_move 36 = .ok (.putfield 107, 3) := by decide +kernel
theorem dX5_move_39 : decode cX5_move 39 = .ok (.aload_n 1, 1) := by decide +kernel
theorem dX5_move_40 : decode cX5_move 40 = .ok (.getfield 107, 3) := by decide +kernel
theorem dX5_move_43 : decode cX5_move 43 = .ok (.aload_n 0, 1) := by decide +kernel
theorem dX5_move_44 : decode cX5_move 44 = .ok (.getfield 213, 3) := by decide +kernel
theorem dX5_move_47 : decode cX5_move 47 = .ok (.if_icmp .ne 8, 3) := by decide +kernel
theorem dX5_move_50 : decode cX5_move 50 = .ok (.aload_n 0, 1) := by decide +kernel
theorem dX5_move_51 : decode cX5_move 51 = .ok (.iconst 2, 1) := by decide +kernel
theorem dX5_move_52 : decode cX5_move 52 = .ok (.putfield 158, 3) := by decide +kernel
theorem dX5_move_55 : decode cX5_move 55 = .ok (.return_, 1) := by decide +kernel
theorem dX5_see_0 : decode cX5_see 0 = .ok (.aload_n 0, 1) := by decide +kernel
theorem dX5_see_1 : decode cX5_see 1 = .ok (.iload_n 2, 1) := by decide +kernel
theorem dX5_see_2 : decode cX5_see 2 = .ok (.invokevirtual 46, 3) := by decide +kernel
theorem dX5_see_5 : decode cX5_see 5 = .ok (.astore_n 3, 1) := by decide +kernel
theorem dX5_see_6 : decode cX5_see 6 = .ok (.aload_n 3, 1) := by decide +kernel
theorem dX5_see_7 : decode cX5_see 7 = .ok (.ifnonnull 4, 3) := by decide +kernel
theorem dX5_see_10 : decode cX5_see 10 = .ok (.return_, 1) := by decide +kernel
theorem dX5_see_11 : decode cX5_see 11 = .ok (.aload_n 3, 1) := by decide +kernel
theorem dX5_see_12 : decode cX5_see 12 = .ok (.getfield 62, 3) := by decide +kernel
theorem dX5_see_15 : decode cX5_see 15 = .ok (.aload_n 3, 1) := by decide +kernel
theorem dX5_see_16 : decode cX5_see 16 = .ok (.getfield 73, 3) := by decide +kernel
theorem dX5_see_19 : decode cX5_see 19 = .ok (.if_icmp .lt 19, 3) := by decide +kernel
theorem dX5_see_22 : decode cX5_see 22 = .ok (.aload_n 3, 1) := by decide +kernel
theorem dX5_see_23 : decode cX5_see 23 = .ok (.dup, 1) := by decide +kernel
theorem dX5_see_24 : decode cX5_see 24 = .ok (.getfield 62, 3) := by decide +kernel
theorem dX5_see_27 : decode cX5_see 27 = .ok (.aload_n 3, 1) := by decide +kernel
theorem dX5_see_28 : decode cX5_see 28 = .ok (.getfield 73, 3) := by decide +kernel
theorem dX5_see_31 : decode cX5_see 31 = .ok (.isub, 1) := by decide +kernel
theorem dX5_see_32 : decode cX5_see 32 = .ok (.putfield 62, 3) := by decide +kernel
theorem dX5_see_35 : decode cX5_see 35 = .ok (.goto 13, 3) := by decide +kernel
theorem dX5_see_38 : decode cX5_see 38 = .ok (.aload_n 1, 1) := by decide +kernel
theorem dX5_see_39 : decode cX5_see 39 = .ok (.dup, 1) := by decide +kernel
theorem dX5_see_40 : decode cX5_see 40 = .ok (.getfield 183, 3) := by decide +kernel
theorem dX5_see_43 : decode cX5_see 43 = .ok (.iconst 1, 1) := by decide +kernel
theorem dX5_see_44 : decode cX5_see 44 = .ok (.iadd, 1) := by decide +kernel
theorem dX5_see_45 : decode cX5_see 45 = .ok (.putfield 183, 3) := by decide +kernel
theorem dX5_see_48 : decode cX5_see 48 = .ok (.aload_n 3, 1) := by decide +kernel
theorem dX5_see_49 : decode cX5_see 49 = .ok (.getfield 76, 3) := by decide +kernel
theorem dX5_see_52 : decode cX5_see 52 = .ok (.ifCond .eq 28, 3) := by decide +kernel
theorem dX5_see_55 : decode cX5_see 55 = .ok (.aload_n 0, 1) := by decide +kernel
theorem dX5_see_56 : decode cX5_see 56 = .ok (.getfield 31, 3) := by decide +kernel
theorem dX5_see_59 : decode cX5_see 59 = .ok (.iload_n 2, 1) := by decide +kernel
theorem dX5_see_60 : decode cX5_see 60 = .ok (.aload_n 1, 1) := by decide +kernel
theorem dX5_see_61 : decode cX5_see 61 = .ok (.getfield 241, 3) := by decide +kernel
theorem dX5_see_64 : decode cX5_see 64 = .ok (.aload_n 0, 1) := by decide +kernel
theorem dX5_see_65 : decode cX5_see 65 = .ok (.getfield 35, 3) := by decide +kernel
theorem dX5_see_68 : decode cX5_see 68 = .ok (.aload_n 0, 1) := by decide +kernel
theorem dX5_see_69 : decode cX5_see 69 = .ok (.getfield 35, 3) := by decide +kernel
theorem dX5_see_72 : decode cX5_see 72 = .ok (.aload_n 3, 1) := by decide +kernel
theorem dX5_see_73 : decode cX5_see 73 = .ok (.invokevirtual 88, 3) := by decide +kernel
theorem dX5_see_76 : decode cX5_see 76 = .ok (.iadd, 1) := by decide +kernel
theorem dX5_see_77 : decode cX5_see 77 = .ok (.invokevirtual 242, 3) := by decide +kernel
theorem dX5_see_80 : decode cX5_see 80 = .ok (.return_, 1) := by decide +kernel
theorem dX5_endIfThere_0 : decode cX5_endIfThere 0 = .ok (.aload_n 1, 1) := by decide +kernel
theorem dX5_endIfThere_1 : decode cX5_endIfThere 1 = .ok (.getfield 107, 3) := by decide +kernel
theorem dX5_endIfThere_4 : decode cX5_endIfThere 4 = .ok (.aload_n 0, 1) := by decide +kernel
theorem dX5_endIfThere_5 : decode cX5_endIfThere 5 = .ok (.getfield 235, 3) := by decide +kernel
theorem dX5_endIfThere_8 : decode cX5_endIfThere 8 = .ok (.if_icmp .eq 5, 3) := by decide +kernel
theorem dX5_endIfThere_11 : decode cX5_endIfThere 11 = .ok (.iconst 0, 1) := by decide +kernel
theorem dX5_endIfThere_12 : decode cX5_endIfThere 12 = .ok (.ireturn, 1) := by decide +kernel
theorem dX5_endIfThere_13 : decode cX5_endIfThere 13 = .ok (.aload_n 0, 1) := by decide +kernel
theorem dX5_endIfThere_14 : decode cX5_endIfThere 14 = .ok (.iconst 3, 1) := by decide +kernel
theorem dX5_endIfThere_15 : decode cX5_endIfThere 15 = .ok (.putfield 158, 3) := by decide +kernel
theorem dX5_endIfThere_18 : decode cX5_endIfThere 18 = .ok (.aload_n 1, 1) := by decide +kernel
theorem dX5_endIfThere_19 : decode cX5_endIfThere 19 = .ok (.iconst 1, 1) := by decide +kernel
theorem dX5_endIfThere_20 : decode cX5_endIfThere 20 = .ok (.putfield 102, 3) := by decide +kernel
theorem dX5_endIfThere_23 : decode cX5_endIfThere 23 = .ok (.iconst 1, 1) := by decide +kernel
theorem dX5_endIfThere_24 : decode cX5_endIfThere 24 = .ok (.ireturn, 1) := by decide +kernel
theorem dX5_areAllOver_0 : decode cX5_areAllOver 0 = .ok (.iconst 0, 1) := by decide +kernel
theorem dX5_areAllOver_1 : decode cX5_areAllOver 1 = .ok (.istore_n 1, 1) := by decide +kernel
theorem dX5_areAllOver_2 : decode cX5_areAllOver 2 = .ok (.iload_n 1, 1) := by decide +kernel
theorem dX5_areAllOver_3 : decode cX5_areAllOver 3 = .ok (.aload_n 0, 1) := by decide +kernel
theorem dX5_areAllOver_4 : decode cX5_areAllOver 4 = .ok (.getfield 24, 3) := by decide +kernel
theorem dX5_areAllOver_7 : decode cX5_areAllOver 7 = .ok (.invokevirtual 112, 3) := by decide +kernel
theorem dX5_areAllOver_10 : decode cX5_areAllOver 10 = .ok (.if_icmp .ge 29, 3) := by decide +kernel
theorem dX5_areAllOver_13 : decode cX5_areAllOver 13 = .ok (.aload_n 0, 1) := by decide +kernel
theorem dX5_areAllOver_14 : decode cX5_areAllOver 14 = .ok (.getfield 24, 3) := by decide +kernel
theorem dX5_areAllOver_17 : decode cX5_areAllOver 17 = .ok (.iload_n 1, 1) := by decide +kernel
theorem dX5_areAllOver_18 : decode cX5_areAllOver 18 = .ok (.invokevirtual 203, 3) := by decide +kernel
theorem dX5_areAllOver_21 : decode cX5_areAllOver 21 = .ok (.checkcast 117, 3) := by decide +kernel
theorem dX5_areAllOver_24 : decode cX5_areAllOver 24 = .ok (.getfield 158, 3) := by decide +kernel
theorem dX5_areAllOver_27 : decode cX5_areAllOver 27 = .ok (.iconst 3, 1) := by decide +kernel
theorem dX5_areAllOver_28 : decode cX5_areAllOver 28 = .ok (.if_icmp .eq 5, 3) := by decide +kernel
theorem dX5_areAllOver_31 : decode cX5_areAllOver 31 = .ok (.iconst 0, 1) := by decide +kernel
theorem dX5_areAllOver_32 : decode cX5_areAllOver 32 = .ok (.ireturn, 1) := by decide +kernel
theorem dX5_areAllOver_33 : decode cX5_areAllOver 33 = .ok (.iinc 1 1, 3) := by decide +kernel
theorem dX5_areAllOver_36 : decode cX5_areAllOver 36 = .ok (.goto (-34), 3) := by decide +kernel
theorem dX5_areAllOver_39 : decode cX5_areAllOver 39 = .ok (.iconst 1, 1) := by decide +kernel
theorem dX5_areAllOver_40 : decode cX5_areAllOver 40 = .ok (.ireturn, 1) := by decide +kernel
theorem dJ9_floorMod_7cf53_0 : decode cJ9_floorMod_7cf53 0 = .ok (.iload_n 0, 1) := by decide +kernel
theorem dJ9_floorMod_7cf53_1 : decode cJ9_floorMod_7cf53 1 = .ok (.iload_n 1, 1) := by decide +kernel
theorem dJ9_floorMod_7cf53_2 : decode cJ9_floorMod_7cf53 2 = .ok (.irem, 1) := by decide +kernel
theorem dJ9_floorMod_7cf53_3 : decode cJ9_floorMod_7cf53 3 = .ok (.istore_n 2, 1) := by decide +kernel
theorem dJ9_floorMod_7cf53_4 : decode cJ9_floorMod_7cf53 4 = .ok (.iload_n 0, 1) := by decide +kernel
theorem dJ9_floorMod_7cf53_5 : decode cJ9_floorMod_7cf53 5 = .ok (.iload_n 1, 1) := by decide +kernel
theorem dJ9_floorMod_7cf53_6 : decode cJ9_floorMod_7cf53 6 = .ok (.ixor, 1) := by decide +kernel
theorem dJ9_floorMod_7cf53_7 : decode cJ9_floorMod_7cf53 7 = .ok (.ifCond .ge 11, 3) := by decide +kernel
theorem dJ9_floorMod_7cf53_10 : decode cJ9_floorMod_7cf53 10 = .ok (.iload_n 2, 1) := by decide +kernel
theorem dJ9_floorMod_7cf53_11 : decode cJ9_floorMod_7cf53 11 = .ok (.ifCond .eq 7, 3) := by decide +kernel
theorem dJ9_floorMod_7cf53_14 : decode cJ9_floorMod_7cf53 14 = .ok (.iload_n 2, 1) := by decide +kernel
theorem dJ9_floorMod_7cf53_15 : decode cJ9_floorMod_7cf53 15 = .ok (.iload_n 1, 1) := by decide +kernel
theorem dJ9_floorMod_7cf53_16 : decode cJ9_floorMod_7cf53 16 = .ok (.iadd, 1) := by decide +kernel
theorem dJ9_floorMod_7cf53_17 : decode cJ9_floorMod_7cf53 17 = .ok (.ireturn, 1) := by decide +kernel
theorem dJ9_floorMod_7cf53_18 : decode cJ9_floorMod_7cf53 18 = .ok (.iload_n 2, 1) := by decide +kernel
theorem dJ9_floorMod_7cf53_19 : decode cJ9_floorMod_7cf53 19 = .ok (.ireturn, 1) := by decide +kernel
theorem dJ9_max_7cf53_0 : decode cJ9_max_7cf53 0 = .ok (.iload_n 0, 1) := by decide +kernel
theorem dJ9_max_7cf53_1 : decode cJ9_max_7cf53 1 = .ok (.iload_n 1, 1) := by decide +kernel
theorem dJ9_max_7cf53_2 : decode cJ9_max_7cf53 2 = .ok (.if_icmp .lt 7, 3) := by decide +kernel
theorem dJ9_max_7cf53_5 : decode cJ9_max_7cf53 5 = .ok (.iload_n 0, 1) := by decide +kernel
theorem dJ9_max_7cf53_6 : decode cJ9_max_7cf53 6 = .ok (.goto 4, 3) := by decide +kernel
theorem dJ9_max_7cf53_9 : decode cJ9_max_7cf53 9 = .ok (.iload_n 1, 1) := by decide +kernel
theorem dJ9_max_7cf53_10 : decode cJ9_max_7cf53 10 = .ok (.ireturn, 1) := by decide +kernel
theorem dJ9_min_7cf53_0 : decode cJ9_min_7cf53 0 = .ok (.iload_n 0, 1) := by decide +kernel
theorem dJ9_min_7cf53_1 : decode cJ9_min_7cf53 1 = .ok (.iload_n 1, 1) := by decide +kernel
theorem dJ9_min_7cf53_2 : decode cJ9_min_7cf53 2 = .ok (.if_icmp .gt 7, 3) := by decide +kernel
theorem dJ9_min_7cf53_5 : decode cJ9_min_7cf53 5 = .ok (.iload_n 0, 1) := by decide +kernel
theorem dJ9_min_7cf53_6 : decode cJ9_min_7cf53 6 = .ok (.goto 4, 3) := by decide +kernel
theorem dJ9_min_7cf53_9 : decode cJ9_min_7cf53 9 = .ok (.iload_n 1, 1) := by decide +kernel
theorem dJ9_min_7cf53_10 : decode cJ9_min_7cf53 10 = .ok (.ireturn, 1) := by decide +kernel
theorem dJxa1e45_init_da8c8_0 : decode cJxa1e45_init_da8c8 0 = .ok (.aload_n 0, 1) := by decide +kernel
theorem dJxa1e45_init_da8c8_1 : decode cJxa1e45_init_da8c8 1 = .ok (.invokespecial 1, 3) := by decide +kernel
theorem dJxa1e45_init_da8c8_4 : decode cJxa1e45_init_da8c8 4 = .ok (.return_, 1) := by decide +kernel
theorem dJxc12de_init_da8c8_0 : decode cJxc12de_init_da8c8 0 = .ok (.aload_n 0, 1) := by decide +kernel
theorem dJxc12de_init_da8c8_1 : decode cJxc12de_init_da8c8 1 = .ok (.invokespecial 1, 3) := by decide +kernel
theorem dJxc12de_init_da8c8_4 : decode cJxc12de_init_da8c8 4 = .ok (.aload_n 0, 1) := by decide +kernel
theorem dJxc12de_init_da8c8_5 : decode cJxc12de_init_da8c8 5 = .ok (.iconst 0, 1) := by decide +kernel
theorem dJxc12de_init_da8c8_6 : decode cJxc12de_init_da8c8 6 = .ok (.putfield 7, 3) := by decide +kernel
theorem dJxc12de_init_da8c8_9 : decode cJxc12de_init_da8c8 9 = .ok (.return_, 1) := by decide +kernel
theorem dJx4a65c_init_da8c8_0 : decode cJx4a65c_init_da8c8 0 = .ok (.aload_n 0, 1) := by decide +kernel
theorem dJx4a65c_init_da8c8_1 : decode cJx4a65c_init_da8c8 1 = .ok (.invokespecial 1, 3) := by decide +kernel
theorem dJx4a65c_init_da8c8_4 : decode cJx4a65c_init_da8c8 4 = .ok (.aload_n 0, 1) := by decide +kernel
theorem dJx4a65c_init_da8c8_5 : decode cJx4a65c_init_da8c8 5 = .ok (.getstatic 39, 3) := by decide +kernel
theorem dJx4a65c_init_da8c8_8 : decode cJx4a65c_init_da8c8 8 = .ok (.putfield 9, 3) := by decide +kernel
theorem dJx4a65c_init_da8c8_11 : decode cJx4a65c_init_da8c8 11 = .ok (.return_, 1) := by decide +kernel
theorem dJx4a65c_grow_92f84_0 : decode cJx4a65c_grow_92f84 0 = .ok (.aload_n 0, 1) := by decide +kernel
theorem dJx4a65c_grow_92f84_1 : decode cJx4a65c_grow_92f84 1 = .ok (.getfield 9, 3) := by decide +kernel
theorem dJx4a65c_grow_92f84_4 : decode cJx4a65c_grow_92f84 4 = .ok (.arraylength, 1) := by decide +kernel
theorem dJx4a65c_grow_92f84_5 : decode cJx4a65c_grow_92f84 5 = .ok (.istore_n 2, 1) := by decide +kernel
theorem dJx4a65c_grow_92f84_6 : decode cJx4a65c_grow_92f84 6 = .ok (.iload_n 2, 1) := by decide +kernel
theorem dJx4a65c_grow_92f84_7 : decode cJx4a65c_grow_92f84 7 = .ok (.ifCond .gt 13, 3) := by decide +kernel
theorem dJx4a65c_grow_92f84_10 : decode cJx4a65c_grow_92f84 10 = .ok (.aload_n 0, 1) := by decide +kernel
theorem dJx4a65c_grow_92f84_11 : decode cJx4a65c_grow_92f84 11 = .ok (.getfield 9, 3) := by decide +kernel
theorem dJx4a65c_grow_92f84_14 : decode cJx4a65c_grow_92f84 14 = .ok (.getstatic 39, 3) := by decide +kernel
theorem dJx4a65c_grow_92f84_17 : decode cJx4a65c_grow_92f84 17 = .ok (.if_acmp .eq 28, 3) := by decide +kernel
theorem dJx4a65c_grow_92f84_20 : decode cJx4a65c_grow_92f84 20 = .ok (.iload_n 2, 1) := by decide +kernel
theorem dJx4a65c_grow_92f84_21 : decode cJx4a65c_grow_92f84 21 = .ok (.iload_n 1, 1) := by decide +kernel
theorem dJx4a65c_grow_92f84_22 : decode cJx4a65c_grow_92f84 22 = .ok (.iload_n 2, 1) := by decide +kernel
theorem dJx4a65c_grow_92f84_23 : decode cJx4a65c_grow_92f84 23 = .ok (.isub, 1) := by decide +kernel
theorem dJx4a65c_grow_92f84_24 : decode cJx4a65c_grow_92f84 24 = .ok (.iload_n 2, 1) := by decide +kernel
theorem dJx4a65c_grow_92f84_25 : decode cJx4a65c_grow_92f84 25 = .ok (.iconst 1, 1) := by decide +kernel
theorem dJx4a65c_grow_92f84_26 : decode cJx4a65c_grow_92f84 26 = .ok (.ishr, 1) := by decide +kernel
theorem dJx4a65c_grow_92f84_27 : decode cJx4a65c_grow_92f84 27 = .ok (.invokestatic 73, 3) := by decide +kernel
theorem dJx4a65c_grow_92f84_30 : decode cJx4a65c_grow_92f84 30 = .ok (.istore_n 3, 1) := by decide +kernel
theorem dJx4a65c_grow_92f84_31 : decode cJx4a65c_grow_92f84 31 = .ok (.aload_n 0, 1) := by decide +kernel
theorem dJx4a65c_grow_92f84_32 : decode cJx4a65c_grow_92f84 32 = .ok (.aload_n 0, 1) := by decide +kernel
theorem dJx4a65c_grow_92f84_33 : decode cJx4a65c_grow_92f84 33 = .ok (.getfield 9, 3) := by decide +kernel
theorem dJx4a65c_grow_92f84_36 : decode cJx4a65c_grow_92f84 36 = .ok (.iload_n 3, 1) := by decide +kernel
theorem dJx4a65c_grow_92f84_37 : decode cJx4a65c_grow_92f84 37 = .ok (.invokestatic 66, 3) := by decide +kernel
theorem dJx4a65c_grow_92f84_40 : decode cJx4a65c_grow_92f84 40 = .ok (.dup_x1, 1) := by decide +kernel
theorem dJx4a65c_grow_92f84_41 : decode cJx4a65c_grow_92f84 41 = .ok (.putfield 9, 3) := by decide +kernel
theorem dJx4a65c_grow_92f84_44 : decode cJx4a65c_grow_92f84 44 = .ok (.areturn, 1) := by decide +kernel
theorem dJx4a65c_grow_92f84_45 : decode cJx4a65c_grow_92f84 45 = .ok (.aload_n 0, 1) := by decide +kernel
theorem dJx4a65c_grow_92f84_46 : decode cJx4a65c_grow_92f84 46 = .ok (.bipush 10, 2) := by decide +kernel
theorem dJx4a65c_grow_92f84_48 : decode cJx4a65c_grow_92f84 48 = .ok (.iload_n 1, 1) := by decide +kernel
theorem dJx4a65c_grow_92f84_49 : decode cJx4a65c_grow_92f84 49 = .ok (.invokestatic 79, 3) := by decide +kernel
theorem dJx4a65c_grow_92f84_52 : decode cJx4a65c_grow_92f84 52 = .ok (.anewarray 7, 3) := by decide +kernel
theorem dJx4a65c_grow_92f84_55 : decode cJx4a65c_grow_92f84 55 = .ok (.dup_x1, 1) := by decide +kernel
theorem dJx4a65c_grow_92f84_56 : decode cJx4a65c_grow_92f84 56 = .ok (.putfield 9, 3) := by decide +kernel
theorem dJx4a65c_grow_92f84_59 : decode cJx4a65c_grow_92f84 59 = .ok (.areturn, 1) := by decide +kernel
theorem dJx4a65c_grow_d5877_0 : decode cJx4a65c_grow_d5877 0 = .ok (.aload_n 0, 1) := by decide +kernel
theorem dJx4a65c_grow_d5877_1 : decode cJx4a65c_grow_d5877 1 = .ok (.aload_n 0, 1) := by decide +kernel
theorem dJx4a65c_grow_d5877_2 : decode cJx4a65c_grow_d5877 2 = .ok (.getfield 48, 3) := by decide +kernel
theorem dJx4a65c_grow_d5877_5 : decode cJx4a65c_grow_d5877 5 = .ok (.iconst 1, 1) := by decide +kernel
theorem dJx4a65c_grow_d5877_6 : decode cJx4a65c_grow_d5877 6 = .ok (.iadd, 1) := by decide +kernel
theorem dJx4a65c_grow_d5877_7 : decode cJx4a65c_grow_d5877 7 = .ok (.invokevirtual 69, 3) := by decide +kernel
theorem dJx4a65c_grow_d5877_10 : decode cJx4a65c_grow_d5877 10 = .ok (.areturn, 1) := by decide +kernel
theorem dJx4a65c_size_8abf5_0 : decode cJx4a65c_size_8abf5 0 = .ok (.aload_n 0, 1) := by decide +kernel
theorem dJx4a65c_size_8abf5_1 : decode cJx4a65c_size_8abf5 1 = .ok (.getfield 48, 3) := by decide +kernel
theorem dJx4a65c_size_8abf5_4 : decode cJx4a65c_size_8abf5 4 = .ok (.ireturn, 1) := by decide +kernel
theorem dJx4a65c_elementData_915e3_0 : decode cJx4a65c_elementData_915e3 0 = .ok (.aload_n 0, 1) := by decide +kernel
theorem dJx4a65c_elementData_915e3_1 : decode cJx4a65c_elementData_915e3 1 = .ok (.getfield 9, 3) := by decide +kernel
theorem dJx4a65c_elementData_915e3_4 : decode cJx4a65c_elementData_915e3 4 = .ok (.iload_n 1, 1) := by decide +kernel
theorem dJx4a65c_elementData_915e3_5 : decode cJx4a65c_elementData_915e3 5 = .ok (.aaload, 1) := by decide +kernel
theorem dJx4a65c_elementData_915e3_6 : decode cJx4a65c_elementData_915e3 6 = .ok (.areturn, 1) := by decide +kernel
theorem dJx4a65c_get_915e3_0 : decode cJx4a65c_get_915e3 0 = .ok (.iload_n 1, 1) := by decide +kernel
theorem dJx4a65c_get_915e3_1 : decode cJx4a65c_get_915e3 1 = .ok (.aload_n 0, 1) := by decide +kernel
theorem dJx4a65c_get_915e3_2 : decode cJx4a65c_get_915e3 2 = .ok (.getfield 48, 3) := by decide +kernel
theorem dJx4a65c_get_915e3_5 : decode cJx4a65c_get_915e3 5 = .ok (.invokestatic 118, 3) := by decide +kernel
theorem dJx4a65c_get_915e3_8 : decode cJx4a65c_get_915e3 8 = .ok (.pop, 1) := by decide +kernel
theorem dJx4a65c_get_915e3_9 : decode cJx4a65c_get_915e3 9 = .ok (.aload_n 0, 1) := by decide +kernel
theorem dJx4a65c_get_915e3_10 : decode cJx4a65c_get_915e3 10 = .ok (.iload_n 1, 1) := by decide +kernel
theorem dJx4a65c_get_915e3_11 : decode cJx4a65c_get_915e3 11 = .ok (.invokevirtual 123, 3) := by decide +kernel
theorem dJx4a65c_get_915e3_14 : decode cJx4a65c_get_915e3 14 = .ok (.areturn, 1) := by decide +kernel
theorem dJx4a65c_add_72be8_0 : decode cJx4a65c_add_72be8 0 = .ok (.iload_n 3, 1) := by decide +kernel
theorem dJx4a65c_add_72be8_1 : decode cJx4a65c_add_72be8 1 = .ok (.aload_n 2, 1) := by decide +kernel
theorem dJx4a65c_add_72be8_2 : decode cJx4a65c_add_72be8 2 = .ok (.arraylength, 1) := by decide +kernel
theorem dJx4a65c_add_72be8_3 : decode cJx4a65c_add_72be8 3 = .ok (.if_icmp .ne 8, 3) := by decide +kernel
theorem dJx4a65c_add_72be8_6 : decode cJx4a65c_add_72be8 6 = .ok (.aload_n 0, 1) := by decide +kernel
theorem dJx4a65c_add_72be8_7 : decode cJx4a65c_add_72be8 7 = .ok (.invokevirtual 129, 3) := by decide +kernel
theorem dJx4a65c_add_72be8_10 : decode cJx4a65c_add_72be8 10 = .ok (.astore_n 2, 1) := by decide +kernel
theorem dJx4a65c_add_72be8_11 : decode cJx4a65c_add_72be8 11 = .ok (.aload_n 2, 1) := by decide +kernel
theorem dJx4a65c_add_72be8_12 : decode cJx4a65c_add_72be8 12 = .ok (.iload_n 3, 1) := by decide +kernel
theorem dJx4a65c_add_72be8_13 : decode cJx4a65c_add_72be8 13 = .ok (.aload_n 1, 1) := by decide +kernel
theorem dJx4a65c_add_72be8_14 : decode cJx4a65c_add_72be8 14 = .ok (.aastore, 1) := by decide +kernel
theorem dJx4a65c_add_72be8_15 : decode cJx4a65c_add_72be8 15 = .ok (.aload_n 0, 1) := by decide +kernel
theorem dJx4a65c_add_72be8_16 : decode cJx4a65c_add_72be8 16 = .ok (.iload_n 3, 1) := by decide +kernel
theorem dJx4a65c_add_72be8_17 : decode cJx4a65c_add_72be8 17 = .ok (.iconst 1, 1) := by decide +kernel
theorem dJx4a65c_add_72be8_18 : decode cJx4a65c_add_72be8 18 = .ok (.iadd, 1) := by decide +kernel
theorem dJx4a65c_add_72be8_19 : decode cJx4a65c_add_72be8 19 = .ok (.putfield 48, 3) := by decide +kernel
theorem dJx4a65c_add_72be8_22 : decode cJx4a65c_add_72be8 22 = .ok (.return_, 1) := by decide +kernel
theorem dJx4a65c_add_9ea2d_0 : decode cJx4a65c_add_9ea2d 0 = .ok (.aload_n 0, 1) := by decide +kernel
theorem dJx4a65c_add_9ea2d_1 : decode cJx4a65c_add_9ea2d 1 = .ok (.dup, 1) := by decide +kernel
theorem dJx4a65c_add_9ea2d_2 : decode cJx4a65c_add_9ea2d 2 = .ok (.getfield 63, 3) := by decide +kernel
theorem dJx4a65c_add_9ea2d_5 : decode cJx4a65c_add_9ea2d 5 = .ok (.iconst 1, 1) := by decide +kernel
theorem dJx4a65c_add_9ea2d_6 : decode cJx4a65c_add_9ea2d 6 = .ok (.iadd, 1) := by decide +kernel
theorem dJx4a65c_add_9ea2d_7 : decode cJx4a65c_add_9ea2d 7 = .ok (.putfield 63, 3) := by decide +kernel
theorem dJx4a65c_add_9ea2d_10 : decode cJx4a65c_add_9ea2d 10 = .ok (.aload_n 0, 1) := by decide +kernel
theorem dJx4a65c_add_9ea2d_11 : decode cJx4a65c_add_9ea2d 11 = .ok (.aload_n 1, 1) := by decide +kernel
theorem dJx4a65c_add_9ea2d_12 : decode cJx4a65c_add_9ea2d 12 = .ok (.aload_n 0, 1) := by decide +kernel
theorem dJx4a65c_add_9ea2d_13 : decode cJx4a65c_add_9ea2d 13 = .ok (.getfield 9, 3) := by decide +kernel
theorem dJx4a65c_add_9ea2d_16 : decode cJx4a65c_add_9ea2d 16 = .ok (.aload_n 0, 1) := by decide +kernel
theorem dJx4a65c_add_9ea2d_17 : decode cJx4a65c_add_9ea2d 17 = .ok (.getfield 48, 3) := by decide +kernel
theorem dJx4a65c_add_9ea2d_20 : decode cJx4a65c_add_9ea2d 20 = .ok (.invokevirtual 131, 3) := by decide +kernel
theorem dJx4a65c_add_9ea2d_23 : decode cJx4a65c_add_9ea2d 23 = .ok (.iconst 1, 1) := by decide +kernel
theorem dJx4a65c_add_9ea2d_24 : decode cJx4a65c_add_9ea2d 24 = .ok (.ireturn, 1) := by decide +kernel
theorem dJx4a65c_remove_915e3_0 : decode cJx4a65c_remove_915e3 0 = .ok (.iload_n 1, 1) := by decide +kernel
theorem dJx4a65c_remove_915e3_1 : decode cJx4a65c_remove_915e3 1 = .ok (.aload_n 0, 1) := by decide +kernel
theorem dJx4a65c_remove_915e3_2 : decode cJx4a65c_remove_915e3 2 = .ok (.getfield 48, 3) := by decide +kernel
theorem dJx4a65c_remove_915e3_5 : decode cJx4a65c_remove_915e3 5 = .ok (.invokestatic 118, 3) := by decide +kernel
theorem dJx4a65c_remove_915e3_8 : decode cJx4a65c_remove_915e3 8 = .ok (.pop, 1) := by decide +kernel
theorem dJx4a65c_remove_915e3_9 : decode cJx4a65c_remove_915e3 9 = .ok (.aload_n 0, 1) := by decide +kernel
theorem dJx4a65c_remove_915e3_10 : decode cJx4a65c_remove_915e3 10 = .ok (.getfield 9, 3) := by decide +kernel
theorem dJx4a65c_remove_915e3_13 : decode cJx4a65c_remove_915e3 13 = .ok (.astore_n 2, 1) := by decide +kernel
theorem dJx4a65c_remove_915e3_14 : decode cJx4a65c_remove_915e3 14 = .ok (.aload_n 2, 1) := by decide +kernel
theorem dJx4a65c_remove_915e3_15 : decode cJx4a65c_remove_915e3 15 = .ok (.iload_n 1, 1) := by decide +kernel
theorem dJx4a65c_remove_915e3_16 : decode cJx4a65c_remove_915e3 16 = .ok (.aaload, 1) := by decide +kernel
theorem dJx4a65c_remove_915e3_17 : decode cJx4a65c_remove_915e3 17 = .ok (.astore_n 3, 1) := by decide +kernel
theorem dJx4a65c_remove_915e3_18 : decode cJx4a65c_remove_915e3 18 = .ok (.aload_n 0, 1) := by decide +kernel
theorem dJx4a65c_remove_915e3_19 : decode cJx4a65c_remove_915e3 19 = .ok (.aload_n 2, 1) := by decide +kernel
theorem dJx4a65c_remove_915e3_20 : decode cJx4a65c_remove_915e3 20 = .ok (.iload_n 1, 1) := by decide +kernel
theorem dJx4a65c_remove_915e3_21 : decode cJx4a65c_remove_915e3 21 = .ok (.invokevirtual 144, 3) := by decide +kernel
theorem dJx4a65c_remove_915e3_24 : decode cJx4a65c_remove_915e3 24 = .ok (.aload_n 3, 1) := by decide +kernel
theorem dJx4a65c_remove_915e3_25 : decode cJx4a65c_remove_915e3 25 = .ok (.areturn, 1) := by decide +kernel
theorem dJx4a65c_fastRemove_b59b0_0 : decode cJx4a65c_fastRemove_b59b0 0 = .ok (.aload_n 0, 1) := by decide +kernel
theorem dJx4a65c_fastRemove_b59b0_1 : decode cJx4a65c_fastRemove_b59b0 1 = .ok (.dup, 1) := by decide +kernel
theorem dJx4a65c_fastRemove_b59b0_2 : decode cJx4a65c_fastRemove_b59b0 2 = .ok (.getfield 63, 3) := by decide +kernel
theorem dJx4a65c_fastRemove_b59b0_5 : decode cJx4a65c_fastRemove_b59b0 5 = .ok (.iconst 1, 1) := by decide +kernel
theorem dJx4a65c_fastRemove_b59b0_6 : decode cJx4a65c_fastRemove_b59b0 6 = .ok (.iadd, 1) := by decide +kernel
theorem dJx4a65c_fastRemove_b59b0_7 : decode cJx4a65c_fastRemove_b59b0 7 = .ok (.putfield 63, 3) := by decide +kernel
theorem dJx4a65c_fastRemove_b59b0_10 : decode cJx4a65c_fastRemove_b59b0 10 = .ok (.aload_n 0, 1) := by decide +kernel
theorem dJx4a65c_fastRemove_b59b0_11 : decode cJx4a65c_fastRemove_b59b0 11 = .ok (.getfield 48, 3) := by decide +kernel
theorem dJx4a65c_fastRemove_b59b0_14 : decode cJx4a65c_fastRemove_b59b0 14 = .ok (.iconst 1, 1) := by decide +kernel
theorem dJx4a65c_fastRemove_b59b0_15 : decode cJx4a65c_fastRemove_b59b0 15 = .ok (.isub, 1) := by decide +kernel
theorem dJx4a65c_fastRemove_b59b0_16 : decode cJx4a65c_fastRemove_b59b0 16 = .ok (.dup, 1) := by decide +kernel
theorem dJx4a65c_fastRemove_b59b0_17 : decode cJx4a65c_fastRemove_b59b0 17 = .ok (.istore_n 3, 1) := by decide +kernel
theorem dJx4a65c_fastRemove_b59b0_18 : decode cJx4a65c_fastRemove_b59b0 18 = .ok (.iload_n 2, 1) := by decide +kernel
theorem dJx4a65c_fastRemove_b59b0_19 : decode cJx4a65c_fastRemove_b59b0 19 = .ok (.if_icmp .le 15, 3) := by decide +kernel
theorem dJx4a65c_fastRemove_b59b0_22 : decode cJx4a65c_fastRemove_b59b0 22 = .ok (.aload_n 1, 1) := by decide +kernel
theorem dJx4a65c_fastRemove_b59b0_23 : decode cJx4a65c_fastRemove_b59b0 23 = .ok (.iload_n 2, 1) := by decide +kernel
theorem dJx4a65c_fastRemove_b59b0_24 : decode cJx4a65c_fastRemove_b59b0 24 = .ok (.iconst 1, 1) := by decide +kernel
theorem dJx4a65c_fastRemove_b59b0_25 : decode cJx4a65c_fastRemove_b59b0 25 = .ok (.iadd, 1) := by decide +kernel
theorem dJx4a65c_fastRemove_b59b0_26 : decode cJx4a65c_fastRemove_b59b0 26 = .ok (.aload_n 1, 1) := by decide +kernel
theorem dJx4a65c_fastRemove_b59b0_27 : decode cJx4a65c_fastRemove_b59b0 27 = .ok (.iload_n 2, 1) := by decide +kernel
theorem dJx4a65c_fastRemove_b59b0_28 : decode cJx4a65c_fastRemove_b59b0 28 = .ok (.iload_n 3, 1) := by decide +kernel
theorem dJx4a65c_fastRemove_b59b0_29 : decode cJx4a65c_fastRemove_b59b0 29 = .ok (.iload_n 2, 1) := by decide +kernel
theorem dJx4a65c_fastRemove_b59b0_30 : decode cJx4a65c_fastRemove_b59b0 30 = .ok (.isub, 1) := by decide +kernel
theorem dJx4a65c_fastRemove_b59b0_31 : decode cJx4a65c_fastRemove_b59b0 31 = .ok (.invokestatic 112, 3) := by decide +kernel
theorem dJx4a65c_fastRemove_b59b0_34 : decode cJx4a65c_fastRemove_b59b0 34 = .ok (.aload_n 1, 1) := by decide +kernel
theorem dJx4a65c_fastRemove_b59b0_35 : decode cJx4a65c_fastRemove_b59b0 35 = .ok (.aload_n 0, 1) := by decide +kernel
theorem dJx4a65c_fastRemove_b59b0_36 : decode cJx4a65c_fastRemove_b59b0 36 = .ok (.iload_n 3, 1) := by decide +kernel
theorem dJx4a65c_fastRemove_b59b0_37 : decode cJx4a65c_fastRemove_b59b0 37 = .ok (.dup_x1, 1) := by decide +kernel
theorem dJx4a65c_fastRemove_b59b0_38 : decode cJx4a65c_fastRemove_b59b0 38 = .ok (.putfield 48, 3) := by decide +kernel
theorem dJx4a65c_fastRemove_b59b0_41 : decode cJx4a65c_fastRemove_b59b0 41 = .ok (.aconst_null, 1) := by decide +kernel
theorem dJx4a65c_fastRemove_b59b0_42 : decode cJx4a65c_fastRemove_b59b0 42 = .ok (.aastore, 1) := by decide +kernel
theorem dJx4a65c_fastRemove_b59b0_43 : decode cJx4a65c_fastRemove_b59b0 43 = .ok (.return_, 1) := by decide +kernel
theorem dJ7_copyOf_1904c_0 : decode cJ7_copyOf_1904c 0 = .ok (.aload_n 0, 1) := by decide +kernel
theorem dJ7_copyOf_1904c_1 : decode cJ7_copyOf_1904c 1 = .ok (.iload_n 1, 1) := by decide +kernel
theorem dJ7_copyOf_1904c_2 : decode cJ7_copyOf_1904c 2 = .ok (.aload_n 0, 1) := by decide +kernel
theorem dJ7_copyOf_1904c_3 : decode cJ7_copyOf_1904c 3 = .ok (.invokevirtual 86, 3) := by decide +kernel
theorem dJ7_copyOf_1904c_6 : decode cJ7_copyOf_1904c 6 = .ok (.invokestatic 300, 3) := by decide +kernel
theorem dJ7_copyOf_1904c_9 : decode cJ7_copyOf_1904c 9 = .ok (.areturn, 1) := by decide +kernel
theorem dJ7_copyOf_6403c_0 : decode cJ7_copyOf_6403c 0 = .ok (.aload_n 2, 1) := by decide +kernel
theorem dJ7_copyOf_6403c_1 : decode cJ7_copyOf_6403c 1 = .ok (.ldc 110, 2) := by decide +kernel
theorem dJ7_copyOf_6403c_3 : decode cJ7_copyOf_6403c 3 = .ok (.if_acmp .ne 10, 3) := by decide +kernel
theorem dJ7_copyOf_6403c_6 : decode cJ7_copyOf_6403c 6 = .ok (.iload_n 1, 1) := by decide +kernel
theorem dJ7_copyOf_6403c_7 : decode cJ7_copyOf_6403c 7 = .ok (.anewarray 2, 3) := by decide +kernel
theorem dJ7_copyOf_6403c_10 : decode cJ7_copyOf_6403c 10 = .ok (.goto 14, 3) := by decide +kernel
theorem dJ7_copyOf_6403c_13 : decode cJ7_copyOf_6403c 13 = .ok (.aload_n 2, 1) := by decide +kernel
theorem dJ7_copyOf_6403c_14 : decode cJ7_copyOf_6403c 14 = .ok (.invokevirtual 90, 3) := by decide +kernel
theorem dJ7_copyOf_6403c_17 : decode cJ7_copyOf_6403c 17 = .ok (.iload_n 1, 1) := by decide +kernel
theorem dJ7_copyOf_6403c_18 : decode cJ7_copyOf_6403c 18 = .ok (.invokestatic 95, 3) := by decide +kernel
theorem dJ7_copyOf_6403c_21 : decode cJ7_copyOf_6403c 21 = .ok (.checkcast 110, 3) := by decide +kernel
theorem dJ7_copyOf_6403c_24 : decode cJ7_copyOf_6403c 24 = .ok (.astore_n 3, 1) := by decide +kernel
theorem dJ7_copyOf_6403c_25 : decode cJ7_copyOf_6403c 25 = .ok (.aload_n 0, 1) := by decide +kernel
theorem dJ7_copyOf_6403c_26 : decode cJ7_copyOf_6403c 26 = .ok (.iconst 0, 1) := by decide +kernel
theorem dJ7_copyOf_6403c_27 : decode cJ7_copyOf_6403c 27 = .ok (.aload_n 3, 1) := by decide +kernel
theorem dJ7_copyOf_6403c_28 : decode cJ7_copyOf_6403c 28 = .ok (.iconst 0, 1) := by decide +kernel
theorem dJ7_copyOf_6403c_29 : decode cJ7_copyOf_6403c 29 = .ok (.aload_n 0, 1) := by decide +kernel
theorem dJ7_copyOf_6403c_30 : decode cJ7_copyOf_6403c 30 = .ok (.arraylength, 1) := by decide +kernel
theorem dJ7_copyOf_6403c_31 : decode cJ7_copyOf_6403c 31 = .ok (.iload_n 1, 1) := by decide +kernel
theorem dJ7_copyOf_6403c_32 : decode cJ7_copyOf_6403c 32 = .ok (.invokestatic 304, 3) := by decide +kernel
theorem dJ7_copyOf_6403c_35 : decode cJ7_copyOf_6403c 35 = .ok (.invokestatic 150, 3) := by decide +kernel
theorem dJ7_copyOf_6403c_38 : decode cJ7_copyOf_6403c 38 = .ok (.aload_n 3, 1) := by decide +kernel
theorem dJ7_copyOf_6403c_39 : decode cJ7_copyOf_6403c 39 = .ok (.areturn, 1) := by decide +kernel
theorem dJ15_checkIndex_7cf53_0 : decode cJ15_checkIndex_7cf53 0 = .ok (.iload_n 0, 1) := by decide +kernel
theorem dJ15_checkIndex_7cf53_1 : decode cJ15_checkIndex_7cf53 1 = .ok (.iload_n 1, 1) := by decide +kernel
theorem dJ15_checkIndex_7cf53_2 : decode cJ15_checkIndex_7cf53 2 = .ok (.aconst_null, 1) := by decide +kernel
theorem dJ15_checkIndex_7cf53_3 : decode cJ15_checkIndex_7cf53 3 = .ok (.invokestatic 105, 3) := by decide +kernel
theorem dJ15_checkIndex_7cf53_6 : decode cJ15_checkIndex_7cf53 6 = .ok (.ireturn, 1) := by decide +kernel
theorem dJ8_newLength_cabcc_0 : decode cJ8_newLength_cabcc 0 = .ok (.iload_n 0, 1) := by decide +kernel
theorem dJ8_newLength_cabcc_1 : decode cJ8_newLength_cabcc 1 = .ok (.iload_n 1, 1) := by decide +kernel
theorem dJ8_newLength_cabcc_2 : decode cJ8_newLength_cabcc 2 = .ok (.iload_n 2, 1) := by decide +kernel
theorem dJ8_newLength_cabcc_3 : decode cJ8_newLength_cabcc 3 = .ok (.invokestatic 194, 3) := by decide +kernel
theorem dJ8_newLength_cabcc_6 : decode cJ8_newLength_cabcc 6 = .ok (.iadd, 1) := by decide +kernel
theorem dJ8_newLength_cabcc_7 : decode cJ8_newLength_cabcc 7 = .ok (.istore_n 3, 1) := by decide +kernel
theorem dJ8_newLength_cabcc_8 : decode cJ8_newLength_cabcc 8 = .ok (.iconst 0, 1) := by decide +kernel
theorem dJ8_newLength_cabcc_9 : decode cJ8_newLength_cabcc 9 = .ok (.iload_n 3, 1) := by decide +kernel
theorem dJ8_newLength_cabcc_10 : decode cJ8_newLength_cabcc 10 = .ok (.if_icmp .ge 11, 3) := by decide +kernel
theorem dJ8_newLength_cabcc_13 : decode cJ8_newLength_cabcc 13 = .ok (.iload_n 3, 1) := by decide +kernel
theorem dJ8_newLength_cabcc_14 : decode cJ8_newLength_cabcc 14 = .ok (.ldc 200, 2) := by decide +kernel
theorem dJ8_newLength_cabcc_16 : decode cJ8_newLength_cabcc 16 = .ok (.if_icmp .gt 5, 3) := by decide +kernel
theorem dJ8_newLength_cabcc_19 : decode cJ8_newLength_cabcc 19 = .ok (.iload_n 3, 1) := by decide +kernel
theorem dJ8_newLength_cabcc_20 : decode cJ8_newLength_cabcc 20 = .ok (.ireturn, 1) := by decide +kernel
theorem dJ8_newLength_cabcc_21 : decode cJ8_newLength_cabcc 21 = .ok (.iload_n 0, 1) := by decide +kernel
theorem dJ8_newLength_cabcc_22 : decode cJ8_newLength_cabcc 22 = .ok (.iload_n 1, 1) := by decide +kernel
theorem dJ8_newLength_cabcc_23 : decode cJ8_newLength_cabcc 23 = .ok (.invokestatic 201, 3) := by decide +kernel
theorem dJ8_newLength_cabcc_26 : decode cJ8_newLength_cabcc 26 = .ok (.ireturn, 1) := by decide +kernel
theorem dJ8_hugeLength_7cf53_0 : decode cJ8_hugeLength_7cf53 0 = .ok (.iload_n 0, 1) := by decide +kernel
theorem dJ8_hugeLength_7cf53_1 : decode cJ8_hugeLength_7cf53 1 = .ok (.iload_n 1, 1) := by decide +kernel
theorem dJ8_hugeLength_7cf53_2 : decode cJ8_hugeLength_7cf53 2 = .ok (.iadd, 1) := by decide +kernel
theorem dJ8_hugeLength_7cf53_3 : decode cJ8_hugeLength_7cf53 3 = .ok (.istore_n 2, 1) := by decide +kernel
theorem dJ8_hugeLength_7cf53_4 : decode cJ8_hugeLength_7cf53 4 = .ok (.iload_n 2, 1) := by decide +kernel
theorem dJ8_hugeLength_7cf53_5 : decode cJ8_hugeLength_7cf53 5 = .ok (.ifCond .ge 44, 3) := by decide +kernel
theorem dJ8_hugeLength_7cf53_8 : decode cJ8_hugeLength_7cf53 8 = .ok (.new 204, 3) := by decide +kernel
theorem dJ8_hugeLength_7cf53_11 : decode cJ8_hugeLength_7cf53 11 = .ok (.dup, 1) := by decide +kernel
theorem dJ8_hugeLength_7cf53_12 : decode cJ8_hugeLength_7cf53 12 = .ok (.new 89, 3) := by decide +kernel
theorem dJ8_hugeLength_7cf53_15 : decode cJ8_hugeLength_7cf53 15 = .ok (.dup, 1) := by decide +kernel
theorem dJ8_hugeLength_7cf53_16 : decode cJ8_hugeLength_7cf53 16 = .ok (.invokespecial 91, 3) := by decide +kernel
theorem dJ8_hugeLength_7cf53_19 : decode cJ8_hugeLength_7cf53 19 = .ok (.ldc 206, 2) := by decide +kernel
theorem dJ8_hugeLength_7cf53_21 : decode cJ8_hugeLength_7cf53 21 = .ok (.invokevirtual 94, 3) := by decide +kernel
theorem dJ8_hugeLength_7cf53_24 : decode cJ8_hugeLength_7cf53 24 = .ok (.iload_n 0, 1) := by decide +kernel
theorem dJ8_hugeLength_7cf53_25 : decode cJ8_hugeLength_7cf53 25 = .ok (.invokevirtual 98, 3) := by decide +kernel
theorem dJ8_hugeLength_7cf53_28 : decode cJ8_hugeLength_7cf53 28 = .ok (.ldc 208, 2) := by decide +kernel
theorem dJ8_hugeLength_7cf53_30 : decode cJ8_hugeLength_7cf53 30 = .ok (.invokevirtual 94, 3) := by decide +kernel
theorem dJ8_hugeLength_7cf53_33 : decode cJ8_hugeLength_7cf53 33 = .ok (.iload_n 1, 1) := by decide +kernel
theorem dJ8_hugeLength_7cf53_34 : decode cJ8_hugeLength_7cf53 34 = .ok (.invokevirtual 98, 3) := by decide +kernel
theorem dJ8_hugeLength_7cf53_37 : decode cJ8_hugeLength_7cf53 37 = .ok (.ldc 210, 2) := by decide +kernel
theorem dJ8_hugeLength_7cf53_39 : decode cJ8_hugeLength_7cf53 39 = .ok (.invokevirtual 94, 3) := by decide +kernel
theorem dJ8_hugeLength_7cf53_42 : decode cJ8_hugeLength_7cf53 42 = .ok (.invokevirtual 101, 3) := by decide +kernel
theorem dJ8_hugeLength_7cf53_45 : decode cJ8_hugeLength_7cf53 45 = .ok (.invokespecial 212, 3) := by decide +kernel
theorem dJ8_hugeLength_7cf53_48 : decode cJ8_hugeLength_7cf53 48 = .ok (.athrow, 1) := by decide +kernel
theorem dJ8_hugeLength_7cf53_49 : decode cJ8_hugeLength_7cf53 49 = .ok (.iload_n 2, 1) := by decide +kernel
theorem dJ8_hugeLength_7cf53_50 : decode cJ8_hugeLength_7cf53 50 = .ok (.ldc 200, 2) := by decide +kernel
theorem dJ8_hugeLength_7cf53_52 : decode cJ8_hugeLength_7cf53 52 = .ok (.if_icmp .gt 6, 3) := by decide +kernel
theorem dJ8_hugeLength_7cf53_55 : decode cJ8_hugeLength_7cf53 55 = .ok (.ldc 200, 2) := by decide +kernel
theorem dJ8_hugeLength_7cf53_57 : decode cJ8_hugeLength_7cf53 57 = .ok (.ireturn, 1) := by decide +kernel
theorem dJ8_hugeLength_7cf53_58 : decode cJ8_hugeLength_7cf53 58 = .ok (.iload_n 2, 1) := by decide +kernel
theorem dJ8_hugeLength_7cf53_59 : decode cJ8_hugeLength_7cf53 59 = .ok (.ireturn, 1) := by decide +kernel
theorem dJ3_checkIndex_8e157_0 : decode cJ3_checkIndex_8e157 0 = .ok (.iload_n 0, 1) := by decide +kernel
theorem dJ3_checkIndex_8e157_1 : decode cJ3_checkIndex_8e157 1 = .ok (.ifCond .lt 8, 3) := by decide +kernel
theorem dJ3_checkIndex_8e157_4 : decode cJ3_checkIndex_8e157 4 = .ok (.iload_n 0, 1) := by decide +kernel
theorem dJ3_checkIndex_8e157_5 : decode cJ3_checkIndex_8e157 5 = .ok (.iload_n 1, 1) := by decide +kernel
theorem dJ3_checkIndex_8e157_6 : decode cJ3_checkIndex_8e157 6 = .ok (.if_icmp .lt 10, 3) := by decide +kernel
theorem dJ3_checkIndex_8e157_9 : decode cJ3_checkIndex_8e157 9 = .ok (.aload_n 2, 1) := by decide +kernel
theorem dJ3_checkIndex_8e157_10 : decode cJ3_checkIndex_8e157 10 = .ok (.iload_n 0, 1) := by decide +kernel
theorem dJ3_checkIndex_8e157_11 : decode cJ3_checkIndex_8e157 11 = .ok (.iload_n 1, 1) := by decide +kernel
theorem dJ3_checkIndex_8e157_12 : decode cJ3_checkIndex_8e157 12 = .ok (.invokestatic 95, 3) := by decide +kernel
theorem dJ3_checkIndex_8e157_15 : decode cJ3_checkIndex_8e157 15 = .ok (.athrow, 1) := by decide +kernel
theorem dJ3_checkIndex_8e157_16 : decode cJ3_checkIndex_8e157 16 = .ok (.iload_n 0, 1) := by decide +kernel
theorem dJ3_checkIndex_8e157_17 : decode cJ3_checkIndex_8e157 17 = .ok (.ireturn, 1) := by decide +kernel
theorem dL_cell_0 : decode cL_cell 0 = .ok (.iload_n 1, 1) := by decide +kernel
theorem dL_cell_1 : decode cL_cell 1 = .ok (.aload_n 0, 1) := by decide +kernel
theorem dL_cell_2 : decode cL_cell 2 = .ok (.arraylength, 1) := by decide +kernel
theorem dL_cell_3 : decode cL_cell 3 = .ok (.if_icmp .ge 9, 3) := by decide +kernel
theorem dL_cell_6 : decode cL_cell 6 = .ok (.aload_n 0, 1) := by decide +kernel
theorem dL_cell_7 : decode cL_cell 7 = .ok (.iload_n 1, 1) := by decide +kernel
theorem dL_cell_8 : decode cL_cell 8 = .ok (.iaload, 1) := by decide +kernel
theorem dL_cell_9 : decode cL_cell 9 = .ok (.goto 13, 3) := by decide +kernel
theorem dL_cell_12 : decode cL_cell 12 = .ok (.ldc 7, 2) := by decide +kernel
theorem dL_cell_14 : decode cL_cell 14 = .ok (.iload_n 1, 1) := by decide +kernel
theorem dL_cell_15 : decode cL_cell 15 = .ok (.bipush 39, 2) := by decide +kernel
theorem dL_cell_17 : decode cL_cell 17 = .ok (.iadd, 1) := by decide +kernel
theorem dL_cell_18 : decode cL_cell 18 = .ok (.imul, 1) := by decide +kernel
theorem dL_cell_19 : decode cL_cell 19 = .ok (.ldc 8, 2) := by decide +kernel
theorem dL_cell_21 : decode cL_cell 21 = .ok (.iadd, 1) := by decide +kernel
theorem dL_cell_22 : decode cL_cell 22 = .ok (.ireturn, 1) := by decide +kernel
theorem dL_low_0 : decode cL_low 0 = .ok (.iload_n 0, 1) := by decide +kernel
theorem dL_low_1 : decode cL_low 1 = .ok (.ldc 9, 2) := by decide +kernel
theorem dL_low_3 : decode cL_low 3 = .ok (.iand, 1) := by decide +kernel
theorem dL_low_4 : decode cL_low 4 = .ok (.iload_n 1, 1) := by decide +kernel
theorem dL_low_5 : decode cL_low 5 = .ok (.irem, 1) := by decide +kernel
theorem dL_low_6 : decode cL_low 6 = .ok (.ireturn, 1) := by decide +kernel
theorem dL_calls_0 : decode cL_calls 0 = .ok (.iload_n 1, 1) := by decide +kernel
theorem dL_calls_1 : decode cL_calls 1 = .ok (.ifCond .ne 12, 3) := by decide +kernel
theorem dL_calls_4 : decode cL_calls 4 = .ok (.aload_n 0, 1) := by decide +kernel
theorem dL_calls_5 : decode cL_calls 5 = .ok (.iload_n 2, 1) := by decide +kernel
theorem dL_calls_6 : decode cL_calls 6 = .ok (.iload_n 3, 1) := by decide +kernel
theorem dL_calls_7 : decode cL_calls 7 = .ok (.invokevirtual 10, 3) := by decide +kernel
theorem dL_calls_10 : decode cL_calls 10 = .ok (.goto 30, 3) := by decide +kernel
theorem dL_calls_13 : decode cL_calls 13 = .ok (.iload_n 1, 1) := by decide +kernel
theorem dL_calls_14 : decode cL_calls 14 = .ok (.iconst 1, 1) := by decide +kernel
theorem dL_calls_15 : decode cL_calls 15 = .ok (.if_icmp .ne 10, 3) := by decide +kernel
theorem dL_calls_18 : decode cL_calls 18 = .ok (.aload_n 0, 1) := by decide +kernel
theorem dL_calls_19 : decode cL_calls 19 = .ok (.invokevirtual 16, 3) := by decide +kernel
theorem dL_calls_22 : decode cL_calls 22 = .ok (.goto 18, 3) := by decide +kernel
theorem dL_calls_25 : decode cL_calls 25 = .ok (.aload_n 0, 1) := by decide +kernel
theorem dL_calls_26 : decode cL_calls 26 = .ok (.iload_n 2, 1) := by decide +kernel
theorem dL_calls_27 : decode cL_calls 27 = .ok (.iload_n 3, 1) := by decide +kernel
theorem dL_calls_28 : decode cL_calls 28 = .ok (.iconst 1, 1) := by decide +kernel
theorem dL_calls_29 : decode cL_calls 29 = .ok (.if_icmp .ne 7, 3) := by decide +kernel
theorem dL_calls_32 : decode cL_calls 32 = .ok (.iconst 1, 1) := by decide +kernel
theorem dL_calls_33 : decode cL_calls 33 = .ok (.goto 4, 3) := by decide +kernel
theorem dL_calls_36 : decode cL_calls 36 = .ok (.iconst 0, 1) := by decide +kernel
theorem dL_calls_37 : decode cL_calls 37 = .ok (.invokevirtual 20, 3) := by decide +kernel
theorem dL_calls_40 : decode cL_calls 40 = .ok (.ireturn, 1) := by decide +kernel
theorem dL_calls_41 : decode cL_calls 41 = .ok (.astore 4, 2) := by decide +kernel
theorem dL_calls_43 : decode cL_calls 43 = .ok (.bipush (-3), 2) := by decide +kernel
theorem dL_calls_45 : decode cL_calls 45 = .ok (.ireturn, 1) := by decide +kernel
theorem dL_way_0 : decode cL_way 0 = .ok (.iload_n 0, 1) := by decide +kernel
theorem dL_way_1 : decode cL_way 1 = .ok (.iload_n 1, 1) := by decide +kernel
theorem dL_way_2 : decode cL_way 2 = .ok (.if_icmp .ge 9, 3) := by decide +kernel
theorem dL_way_5 : decode cL_way 5 = .ok (.iload_n 1, 1) := by decide +kernel
theorem dL_way_6 : decode cL_way 6 = .ok (.iload_n 0, 1) := by decide +kernel
theorem dL_way_7 : decode cL_way 7 = .ok (.isub, 1) := by decide +kernel
theorem dL_way_8 : decode cL_way 8 = .ok (.goto 6, 3) := by decide +kernel
theorem dL_way_11 : decode cL_way 11 = .ok (.iload_n 0, 1) := by decide +kernel
theorem dL_way_12 : decode cL_way 12 = .ok (.iload_n 1, 1) := by decide +kernel
theorem dL_way_13 : decode cL_way 13 = .ok (.isub, 1) := by decide +kernel
theorem dL_way_14 : decode cL_way 14 = .ok (.istore_n 2, 1) := by decide +kernel
theorem dL_way_15 : decode cL_way 15 = .ok (.iload_n 2, 1) := by decide +kernel
theorem dL_way_16 : decode cL_way 16 = .ok (.iconst 4, 1) := by decide +kernel
theorem dL_way_17 : decode cL_way 17 = .ok (.if_icmp .le 10, 3) := by decide +kernel
theorem dL_way_20 : decode cL_way 20 = .ok (.bipush 8, 2) := by decide +kernel
theorem dL_way_22 : decode cL_way 22 = .ok (.iload_n 2, 1) := by decide +kernel
theorem dL_way_23 : decode cL_way 23 = .ok (.isub, 1) := by decide +kernel
theorem dL_way_24 : decode cL_way 24 = .ok (.goto 4, 3) := by decide +kernel
theorem dL_way_27 : decode cL_way 27 = .ok (.iload_n 2, 1) := by decide +kernel
theorem dL_way_28 : decode cL_way 28 = .ok (.ireturn, 1) := by decide +kernel
theorem dL_step_0 : decode cL_step 0 = .ok (.iload_n 0, 1) := by decide +kernel
theorem dL_step_1 : decode cL_step 1 = .ok (.iconst 1, 1) := by decide +kernel
theorem dL_step_2 : decode cL_step 2 = .ok (.iadd, 1) := by decide +kernel
theorem dL_step_3 : decode cL_step 3 = .ok (.bipush 8, 2) := by decide +kernel
theorem dL_step_5 : decode cL_step 5 = .ok (.irem, 1) := by decide +kernel
theorem dL_step_6 : decode cL_step 6 = .ok (.istore_n 2, 1) := by decide +kernel
theorem dL_step_7 : decode cL_step 7 = .ok (.iload_n 0, 1) := by decide +kernel
theorem dL_step_8 : decode cL_step 8 = .ok (.iload_n 1, 1) := by decide +kernel
theorem dL_step_9 : decode cL_step 9 = .ok (.if_icmp .ne 7, 3) := by decide +kernel
theorem dL_step_12 : decode cL_step 12 = .ok (.iload_n 0, 1) := by decide +kernel
theorem dL_step_13 : decode cL_step 13 = .ok (.goto 27, 3) := by decide +kernel
theorem dL_step_16 : decode cL_step 16 = .ok (.iload_n 2, 1) := by decide +kernel
theorem dL_step_17 : decode cL_step 17 = .ok (.iload_n 1, 1) := by decide +kernel
theorem dL_step_18 : decode cL_step 18 = .ok (.invokestatic 26, 3) := by decide +kernel
theorem dL_step_21 : decode cL_step 21 = .ok (.iload_n 0, 1) := by decide +kernel
theorem dL_step_22 : decode cL_step 22 = .ok (.iload_n 1, 1) := by decide +kernel
theorem dL_step_23 : decode cL_step 23 = .ok (.invokestatic 26, 3) := by decide +kernel
theorem dL_step_26 : decode cL_step 26 = .ok (.if_icmp .ge 7, 3) := by decide +kernel
theorem dL_step_29 : decode cL_step 29 = .ok (.iload_n 2, 1) := by decide +kernel
theorem dL_step_30 : decode cL_step 30 = .ok (.goto 10, 3) := by decide +kernel
theorem dL_step_33 : decode cL_step 33 = .ok (.iload_n 0, 1) := by decide +kernel
theorem dL_step_34 : decode cL_step 34 = .ok (.bipush 7, 2) := by decide +kernel
theorem dL_step_36 : decode cL_step 36 = .ok (.iadd, 1) := by decide +kernel
theorem dL_step_37 : decode cL_step 37 = .ok (.bipush 8, 2) := by decide +kernel
theorem dL_step_39 : decode cL_step 39 = .ok (.irem, 1) := by decide +kernel
theorem dL_step_40 : decode cL_step 40 = .ok (.ireturn, 1) := by decide +kernel
theorem dL_days_0 : decode cL_days 0 = .ok (.iconst 0, 1) := by decide +kernel
theorem dL_days_1 : decode cL_days 1 = .ok (.istore_n 2, 1) := by decide +kernel
theorem dL_days_2 : decode cL_days 2 = .ok (.bipush 31, 2) := by decide +kernel
theorem dL_days_4 : decode cL_days 4 = .ok (.istore_n 3, 1) := by decide +kernel
theorem dL_days_5 : decode cL_days 5 = .ok (.iconst 0, 1) := by decide +kernel
theorem dL_days_6 : decode cL_days 6 = .ok (.istore 4, 2) := by decide +kernel
theorem dL_days_8 : decode cL_days 8 = .ok (.iconst 3, 1) := by decide +kernel
theorem dL_days_9 : decode cL_days 9 = .ok (.istore 5, 2) := by decide +kernel
theorem dL_days_11 : decode cL_days 11 = .ok (.iload 5, 2) := by decide +kernel
theorem dL_days_13 : decode cL_days 13 = .ok (.bipush 6, 2) := by decide +kernel
theorem dL_days_15 : decode cL_days 15 = .ok (.if_icmp .ge 54, 3) := by decide +kernel
theorem dL_days_18 : decode cL_days 18 = .ok (.aload_n 1, 1) := by decide +kernel
theorem dL_days_19 : decode cL_days 19 = .ok (.bipush 6, 2) := by decide +kernel
theorem dL_days_21 : decode cL_days 21 = .ok (.iload_n 0, 1) := by decide +kernel
theorem dL_days_22 : decode cL_days 22 = .ok (.imul, 1) := by decide +kernel
theorem dL_days_23 : decode cL_days 23 = .ok (.iload 5, 2) := by decide +kernel
theorem dL_days_25 : decode cL_days 25 = .ok (.iadd, 1) := by decide +kernel
theorem dL_days_26 : decode cL_days 26 = .ok (.iaload, 1) := by decide +kernel
theorem dL_days_27 : decode cL_days 27 = .ok (.istore 6, 2) := by decide +kernel
theorem dL_days_29 : decode cL_days 29 = .ok (.iload_n 2, 1) := by decide +kernel
theorem dL_days_30 : decode cL_days 30 = .ok (.iload 6, 2) := by decide +kernel
theorem dL_days_32 : decode cL_days 32 = .ok (.iadd, 1) := by decide +kernel
theorem dL_days_33 : decode cL_days 33 = .ok (.istore_n 2, 1) := by decide +kernel
theorem dL_days_34 : decode cL_days 34 = .ok (.iload 6, 2) := by decide +kernel
theorem dL_days_36 : decode cL_days 36 = .ok (.iload_n 3, 1) := by decide +kernel
theorem dL_days_37 : decode cL_days 37 = .ok (.if_icmp .ge 8, 3) := by decide +kernel
theorem dL_days_40 : decode cL_days 40 = .ok (.iload 6, 2) := by decide +kernel
theorem dL_days_42 : decode cL_days 42 = .ok (.goto 4, 3) := by decide +kernel
theorem dL_days_45 : decode cL_days 45 = .ok (.iload_n 3, 1) := by decide +kernel
theorem dL_days_46 : decode cL_days 46 = .ok (.istore_n 3, 1) := by decide +kernel
theorem dL_days_47 : decode cL_days 47 = .ok (.iload 6, 2) := by decide +kernel
theorem dL_days_49 : decode cL_days 49 = .ok (.iload 4, 2) := by decide +kernel
theorem dL_days_51 : decode cL_days 51 = .ok (.if_icmp .le 8, 3) := by decide +kernel
theorem dL_days_54 : decode cL_days 54 = .ok (.iload 6, 2) := by decide +kernel
theorem dL_days_56 : decode cL_days 56 = .ok (.goto 5, 3) := by decide +kernel
theorem dL_days_59 : decode cL_days 59 = .ok (.iload 4, 2) := by decide +kernel
theorem dL_days_61 : decode cL_days 61 = .ok (.istore 4, 2) := by decide +kernel
theorem dL_days_63 : decode cL_days 63 = .ok (.iinc 5 1, 3) := by decide +kernel
theorem dL_days_66 : decode cL_days 66 = .ok (.goto (-55), 3) := by decide +kernel
theorem dL_days_69 : decode cL_days 69 = .ok (.iload_n 2, 1) := by decide +kernel
theorem dL_days_70 : decode cL_days 70 = .ok (.iload_n 3, 1) := by decide +kernel
theorem dL_days_71 : decode cL_days 71 = .ok (.isub, 1) := by decide +kernel
theorem dL_days_72 : decode cL_days 72 = .ok (.iload 4, 2) := by decide +kernel
theorem dL_days_74 : decode cL_days 74 = .ok (.isub, 1) := by decide +kernel
theorem dL_days_75 : decode cL_days 75 = .ok (.ireturn, 1) := by decide +kernel
theorem dL_sends_0 : decode cL_sends 0 = .ok (.iconst (-1), 1) := by decide +kernel
theorem dL_sends_1 : decode cL_sends 1 = .ok (.istore_n 3, 1) := by decide +kernel
theorem dL_sends_2 : decode cL_sends 2 = .ok (.iconst (-1), 1) := by decide +kernel
theorem dL_sends_3 : decode cL_sends 3 = .ok (.istore 4, 2) := by decide +kernel
theorem dL_sends_5 : decode cL_sends 5 = .ok (.iconst 3, 1) := by decide +kernel
theorem dL_sends_6 : decode cL_sends 6 = .ok (.istore 5, 2) := by decide +kernel
theorem dL_sends_8 : decode cL_sends 8 = .ok (.iload 5, 2) := by decide +kernel
theorem dL_sends_10 : decode cL_sends 10 = .ok (.ifCond .lt 93, 3) := by decide +kernel
theorem dL_sends_13 : decode cL_sends 13 = .ok (.sipush 1000, 3) := by decide +kernel
theorem dL_sends_16 : decode cL_sends 16 = .ok (.bipush 8, 2) := by decide +kernel
theorem dL_sends_18 : decode cL_sends 18 = .ok (.aload_n 1, 1) := by decide +kernel
theorem dL_sends_19 : decode cL_sends 19 = .ok (.iconst 3, 1) := by decide +kernel
theorem dL_sends_20 : decode cL_sends 20 = .ok (.iload 5, 2) := by decide +kernel
theorem dL_sends_22 : decode cL_sends 22 = .ok (.imul, 1) := by decide +kernel
theorem dL_sends_23 : decode cL_sends 23 = .ok (.iaload, 1) := by decide +kernel
theorem dL_sends_24 : decode cL_sends 24 = .ok (.aload_n 2, 1) := by decide +kernel
theorem dL_sends_25 : decode cL_sends 25 = .ok (.bipush 6, 2) := by decide +kernel
theorem dL_sends_27 : decode cL_sends 27 = .ok (.iload_n 0, 1) := by decide +kernel
theorem dL_sends_28 : decode cL_sends 28 = .ok (.imul, 1) := by decide +kernel
theorem dL_sends_29 : decode cL_sends 29 = .ok (.iaload, 1) := by decide +kernel
theorem dL_sends_30 : decode cL_sends 30 = .ok (.invokestatic 26, 3) := by decide +kernel
theorem dL_sends_33 : decode cL_sends 33 = .ok (.isub, 1) := by decide +kernel
theorem dL_sends_34 : decode cL_sends 34 = .ok (.imul, 1) := by decide +kernel
theorem dL_sends_35 : decode cL_sends 35 = .ok (.aload_n 1, 1) := by decide +kernel
theorem dL_sends_36 : decode cL_sends 36 = .ok (.iconst 3, 1) := by decide +kernel
theorem dL_sends_37 : decode cL_sends 37 = .ok (.iload 5, 2) := by decide +kernel
theorem dL_sends_39 : decode cL_sends 39 = .ok (.imul, 1) := by decide +kernel
theorem dL_sends_40 : decode cL_sends 40 = .ok (.iconst 1, 1) := by decide +kernel
theorem dL_sends_41 : decode cL_sends 41 = .ok (.iadd, 1) := by decide +kernel
theorem dL_sends_42 : decode cL_sends 42 = .ok (.iaload, 1) := by decide +kernel
theorem dL_sends_43 : decode cL_sends 43 = .ok (.iadd, 1) := by decide +kernel
theorem dL_sends_44 : decode cL_sends 44 = .ok (.istore 6, 2) := by decide +kernel
theorem dL_sends_46 : decode cL_sends 46 = .ok (.aload_n 1, 1) := by decide +kernel
theorem dL_sends_47 : decode cL_sends 47 = .ok (.iconst 3, 1) := by decide +kernel
theorem dL_sends_48 : decode cL_sends 48 = .ok (.iload 5, 2) := by decide +kernel
theorem dL_sends_50 : decode cL_sends 50 = .ok (.imul, 1) := by decide +kernel
theorem dL_sends_51 : decode cL_sends 51 = .ok (.iconst 2, 1) := by decide +kernel
theorem dL_sends_52 : decode cL_sends 52 = .ok (.iadd, 1) := by decide +kernel
theorem dL_sends_53 : decode cL_sends 53 = .ok (.iaload, 1) := by decide +kernel
theorem dL_sends_54 : decode cL_sends 54 = .ok (.ifCond .ge 14, 3) := by decide +kernel
theorem dL_sends_57 : decode cL_sends 57 = .ok (.iload 6, 2) := by decide +kernel
theorem dL_sends_59 : decode cL_sends 59 = .ok (.iload 4, 2) := by decide +kernel
theorem dL_sends_61 : decode cL_sends 61 = .ok (.if_icmp .lt 7, 3) := by decide +kernel
theorem dL_sends_64 : decode cL_sends 64 = .ok (.iconst 1, 1) := by decide +kernel
theorem dL_sends_65 : decode cL_sends 65 = .ok (.goto 4, 3) := by decide +kernel
theorem dL_sends_68 : decode cL_sends 68 = .ok (.iconst 0, 1) := by decide +kernel
theorem dL_sends_69 : decode cL_sends 69 = .ok (.istore 7, 2) := by decide +kernel
theorem dL_sends_71 : decode cL_sends 71 = .ok (.iload 7, 2) := by decide +kernel
theorem dL_sends_73 : decode cL_sends 73 = .ok (.ifCond .eq 8, 3) := by decide +kernel
theorem dL_sends_76 : decode cL_sends 76 = .ok (.iload 5, 2) := by decide +kernel
theorem dL_sends_78 : decode cL_sends 78 = .ok (.goto 4, 3) := by decide +kernel
theorem dL_sends_81 : decode cL_sends 81 = .ok (.iload_n 3, 1) := by decide +kernel
theorem dL_sends_82 : decode cL_sends 82 = .ok (.istore_n 3, 1) := by decide +kernel
theorem dL_sends_83 : decode cL_sends 83 = .ok (.iload 7, 2) := by decide +kernel
theorem dL_sends_85 : decode cL_sends 85 = .ok (.ifCond .eq 8, 3) := by decide +kernel
theorem dL_sends_88 : decode cL_sends 88 = .ok (.iload 6, 2) := by decide +kernel
theorem dL_sends_90 : decode cL_sends 90 = .ok (.goto 5, 3) := by decide +kernel
theorem dL_sends_93 : decode cL_sends 93 = .ok (.iload 4, 2) := by decide +kernel
theorem dL_sends_95 : decode cL_sends 95 = .ok (.istore 4, 2) := by decide +kernel
theorem dL_sends_97 : decode cL_sends 97 = .ok (.iinc 5 (-1), 3) := by decide +kernel
theorem dL_sends_100 : decode cL_sends 100 = .ok (.goto (-92), 3) := by decide +kernel
theorem dL_sends_103 : decode cL_sends 103 = .ok (.iload_n 3, 1) := by decide +kernel
theorem dL_sends_104 : decode cL_sends 104 = .ok (.ifCond .lt 29, 3) := by decide +kernel
theorem dL_sends_107 : decode cL_sends 107 = .ok (.aload_n 1, 1) := by decide +kernel
theorem dL_sends_108 : decode cL_sends 108 = .ok (.iconst 3, 1) := by decide +kernel
theorem dL_sends_109 : decode cL_sends 109 = .ok (.iload_n 3, 1) := by decide +kernel
theorem dL_sends_110 : decode cL_sends 110 = .ok (.imul, 1) := by decide +kernel
theorem dL_sends_111 : decode cL_sends 111 = .ok (.iconst 2, 1) := by decide +kernel
theorem dL_sends_112 : decode cL_sends 112 = .ok (.iadd, 1) := by decide +kernel
theorem dL_sends_113 : decode cL_sends 113 = .ok (.iload_n 0, 1) := by decide +kernel
theorem dL_sends_114 : decode cL_sends 114 = .ok (.iastore, 1) := by decide +kernel
theorem dL_sends_115 : decode cL_sends 115 = .ok (.aload_n 2, 1) := by decide +kernel
theorem dL_sends_116 : decode cL_sends 116 = .ok (.bipush 6, 2) := by decide +kernel
theorem dL_sends_118 : decode cL_sends 118 = .ok (.iload_n 0, 1) := by decide +kernel
theorem dL_sends_119 : decode cL_sends 119 = .ok (.imul, 1) := by decide +kernel
theorem dL_sends_120 : decode cL_sends 120 = .ok (.iconst 2, 1) := by decide +kernel
theorem dL_sends_121 : decode cL_sends 121 = .ok (.iadd, 1) := by decide +kernel
theorem dL_sends_122 : decode cL_sends 122 = .ok (.iconst 1, 1) := by decide +kernel
theorem dL_sends_123 : decode cL_sends 123 = .ok (.iastore, 1) := by decide +kernel
theorem dL_sends_124 : decode cL_sends 124 = .ok (.aload_n 2, 1) := by decide +kernel
theorem dL_sends_125 : decode cL_sends 125 = .ok (.bipush 6, 2) := by decide +kernel
theorem dL_sends_127 : decode cL_sends 127 = .ok (.iload_n 0, 1) := by decide +kernel
theorem dL_sends_128 : decode cL_sends 128 = .ok (.imul, 1) := by decide +kernel
theorem dL_sends_129 : decode cL_sends 129 = .ok (.iconst 3, 1) := by decide +kernel
theorem dL_sends_130 : decode cL_sends 130 = .ok (.iadd, 1) := by decide +kernel
theorem dL_sends_131 : decode cL_sends 131 = .ok (.iload_n 3, 1) := by decide +kernel
theorem dL_sends_132 : decode cL_sends 132 = .ok (.iastore, 1) := by decide +kernel
theorem dL_sends_133 : decode cL_sends 133 = .ok (.return_, 1) := by decide +kernel
theorem dL_shows_0 : decode cL_shows 0 = .ok (.iconst 0, 1) := by decide +kernel
theorem dL_shows_1 : decode cL_shows 1 = .ok (.istore 6, 2) := by decide +kernel
theorem dL_shows_3 : decode cL_shows 3 = .ok (.iconst 0, 1) := by decide +kernel
theorem dL_shows_4 : decode cL_shows 4 = .ok (.istore 7, 2) := by decide +kernel
theorem dL_shows_6 : decode cL_shows 6 = .ok (.iload 7, 2) := by decide +kernel
theorem dL_shows_8 : decode cL_shows 8 = .ok (.aload 5, 2) := by decide +kernel
theorem dL_shows_10 : decode cL_shows 10 = .ok (.iconst 3, 1) := by decide +kernel
theorem dL_shows_11 : decode cL_shows 11 = .ok (.iaload, 1) := by decide +kernel
theorem dL_shows_12 : decode cL_shows 12 = .ok (.if_icmp .ge 55, 3) := by decide +kernel
theorem dL_shows_15 : decode cL_shows 15 = .ok (.iload 6, 2) := by decide +kernel
theorem dL_shows_17 : decode cL_shows 17 = .ok (.ifCond .ne 37, 3) := by decide +kernel
theorem dL_shows_20 : decode cL_shows 20 = .ok (.iload_n 2, 1) := by decide +kernel
theorem dL_shows_21 : decode cL_shows 21 = .ok (.ifCond .lt 37, 3) := by decide +kernel
theorem dL_shows_24 : decode cL_shows 24 = .ok (.aload_n 3, 1) := by decide +kernel
theorem dL_shows_25 : decode cL_shows 25 = .ok (.iload 7, 2) := by decide +kernel
theorem dL_shows_27 : decode cL_shows 27 = .ok (.iaload, 1) := by decide +kernel
theorem dL_shows_28 : decode cL_shows 28 = .ok (.iload_n 0, 1) := by decide +kernel
theorem dL_shows_29 : decode cL_shows 29 = .ok (.bipush 8, 2) := by decide +kernel
theorem dL_shows_31 : decode cL_shows 31 = .ok (.iload_n 1, 1) := by decide +kernel
theorem dL_shows_32 : decode cL_shows 32 = .ok (.imul, 1) := by decide +kernel
theorem dL_shows_33 : decode cL_shows 33 = .ok (.iadd, 1) := by decide +kernel
theorem dL_shows_34 : decode cL_shows 34 = .ok (.bipush 64, 2) := by decide +kernel
theorem dL_shows_36 : decode cL_shows 36 = .ok (.iload_n 2, 1) := by decide +kernel
theorem dL_shows_37 : decode cL_shows 37 = .ok (.imul, 1) := by decide +kernel
theorem dL_shows_38 : decode cL_shows 38 = .ok (.iadd, 1) := by decide +kernel
theorem dL_shows_39 : decode cL_shows 39 = .ok (.if_icmp .ne 19, 3) := by decide +kernel
theorem dL_shows_42 : decode cL_shows 42 = .ok (.aload 4, 2) := by decide +kernel
theorem dL_shows_44 : decode cL_shows 44 = .ok (.iload 7, 2) := by decide +kernel
theorem dL_shows_46 : decode cL_shows 46 = .ok (.iaload, 1) := by decide +kernel
theorem dL_shows_47 : decode cL_shows 47 = .ok (.aload 5, 2) := by decide +kernel
theorem dL_shows_49 : decode cL_shows 49 = .ok (.iconst 0, 1) := by decide +kernel
theorem dL_shows_50 : decode cL_shows 50 = .ok (.iaload, 1) := by decide +kernel
theorem dL_shows_51 : decode cL_shows 51 = .ok (.if_icmp .le 7, 3) := by decide +kernel
theorem dL_shows_54 : decode cL_shows 54 = .ok (.iconst 1, 1) := by decide +kernel
theorem dL_shows_55 : decode cL_shows 55 = .ok (.goto 4, 3) := by decide +kernel
theorem dL_shows_58 : decode cL_shows 58 = .ok (.iconst 0, 1) := by decide +kernel
theorem dL_shows_59 : decode cL_shows 59 = .ok (.istore 6, 2) := by decide +kernel
theorem dL_shows_61 : decode cL_shows 61 = .ok (.iinc 7 1, 3) := by decide +kernel
theorem dL_shows_64 : decode cL_shows 64 = .ok (.goto (-58), 3) := by decide +kernel
theorem dL_shows_67 : decode cL_shows 67 = .ok (.iload 6, 2) := by decide +kernel
theorem dL_shows_69 : decode cL_shows 69 = .ok (.ireturn, 1) := by decide +kernel
theorem dL_goes_0 : decode cL_goes 0 = .ok (.iconst 3, 1) := by decide +kernel
theorem dL_goes_1 : decode cL_goes 1 = .ok (.aload_n 3, 1) := by decide +kernel
theorem dL_goes_2 : decode cL_goes 2 = .ok (.bipush 6, 2) := by decide +kernel
theorem dL_goes_4 : decode cL_goes 4 = .ok (.iload_n 0, 1) := by decide +kernel
theorem dL_goes_5 : decode cL_goes 5 = .ok (.imul, 1) := by decide +kernel
theorem dL_goes_6 : decode cL_goes 6 = .ok (.iconst 3, 1) := by decide +kernel
theorem dL_goes_7 : decode cL_goes 7 = .ok (.iadd, 1) := by decide +kernel
theorem dL_goes_8 : decode cL_goes 8 = .ok (.iaload, 1) := by decide +kernel
theorem dL_goes_9 : decode cL_goes 9 = .ok (.imul, 1) := by decide +kernel
theorem dL_goes_10 : decode cL_goes 10 = .ok (.istore 7, 2) := by decide +kernel
theorem dL_goes_12 : decode cL_goes 12 = .ok (.aload_n 2, 1) := by decide +kernel
theorem dL_goes_13 : decode cL_goes 13 = .ok (.iload 7, 2) := by decide +kernel
theorem dL_goes_15 : decode cL_goes 15 = .ok (.aload_n 2, 1) := by decide +kernel
theorem dL_goes_16 : decode cL_goes 16 = .ok (.iload 7, 2) := by decide +kernel
theorem dL_goes_18 : decode cL_goes 18 = .ok (.iaload, 1) := by decide +kernel
theorem dL_goes_19 : decode cL_goes 19 = .ok (.aload_n 3, 1) := by decide +kernel
theorem dL_goes_20 : decode cL_goes 20 = .ok (.bipush 6, 2) := by decide +kernel
theorem dL_goes_22 : decode cL_goes 22 = .ok (.iload_n 0, 1) := by decide +kernel
theorem dL_goes_23 : decode cL_goes 23 = .ok (.imul, 1) := by decide +kernel
theorem dL_goes_24 : decode cL_goes 24 = .ok (.iconst 2, 1) := by decide +kernel
theorem dL_goes_25 : decode cL_goes 25 = .ok (.iadd, 1) := by decide +kernel
theorem dL_goes_26 : decode cL_goes 26 = .ok (.iaload, 1) := by decide +kernel
theorem dL_goes_27 : decode cL_goes 27 = .ok (.iconst 2, 1) := by decide +kernel
theorem dL_goes_28 : decode cL_goes 28 = .ok (.if_icmp .ne 14, 3) := by decide +kernel
theorem dL_goes_31 : decode cL_goes 31 = .ok (.aload_n 3, 1) := by decide +kernel
theorem dL_goes_32 : decode cL_goes 32 = .ok (.bipush 6, 2) := by decide +kernel
theorem dL_goes_34 : decode cL_goes 34 = .ok (.iload_n 0, 1) := by decide +kernel
theorem dL_goes_35 : decode cL_goes 35 = .ok (.imul, 1) := by decide +kernel
theorem dL_goes_36 : decode cL_goes 36 = .ok (.iconst 1, 1) := by decide +kernel
theorem dL_goes_37 : decode cL_goes 37 = .ok (.iadd, 1) := by decide +kernel
theorem dL_goes_38 : decode cL_goes 38 = .ok (.iaload, 1) := by decide +kernel
theorem dL_goes_39 : decode cL_goes 39 = .ok (.goto 9, 3) := by decide +kernel
theorem dL_goes_42 : decode cL_goes 42 = .ok (.aload_n 3, 1) := by decide +kernel
theorem dL_goes_43 : decode cL_goes 43 = .ok (.bipush 6, 2) := by decide +kernel
theorem dL_goes_45 : decode cL_goes 45 = .ok (.iload_n 0, 1) := by decide +kernel
theorem dL_goes_46 : decode cL_goes 46 = .ok (.imul, 1) := by decide +kernel
theorem dL_goes_47 : decode cL_goes 47 = .ok (.iaload, 1) := by decide +kernel
theorem dL_goes_48 : decode cL_goes 48 = .ok (.invokestatic 31, 3) := by decide +kernel
theorem dL_goes_51 : decode cL_goes 51 = .ok (.iastore, 1) := by decide +kernel
theorem dL_goes_52 : decode cL_goes 52 = .ok (.aload_n 3, 1) := by decide +kernel
theorem dL_goes_53 : decode cL_goes 53 = .ok (.bipush 6, 2) := by decide +kernel
theorem dL_goes_55 : decode cL_goes 55 = .ok (.iload_n 0, 1) := by decide +kernel
theorem dL_goes_56 : decode cL_goes 56 = .ok (.imul, 1) := by decide +kernel
theorem dL_goes_57 : decode cL_goes 57 = .ok (.iconst 2, 1) := by decide +kernel
theorem dL_goes_58 : decode cL_goes 58 = .ok (.iadd, 1) := by decide +kernel
theorem dL_goes_59 : decode cL_goes 59 = .ok (.iaload, 1) := by decide +kernel
theorem dL_goes_60 : decode cL_goes 60 = .ok (.iconst 1, 1) := by decide +kernel
theorem dL_goes_61 : decode cL_goes 61 = .ok (.if_icmp .ne 18, 3) := by decide +kernel
theorem dL_goes_64 : decode cL_goes 64 = .ok (.aload_n 2, 1) := by decide +kernel
theorem dL_goes_65 : decode cL_goes 65 = .ok (.iload 7, 2) := by decide +kernel
theorem dL_goes_67 : decode cL_goes 67 = .ok (.iaload, 1) := by decide +kernel
theorem dL_goes_68 : decode cL_goes 68 = .ok (.aload_n 3, 1) := by decide +kernel
theorem dL_goes_69 : decode cL_goes 69 = .ok (.bipush 6, 2) := by decide +kernel
theorem dL_goes_71 : decode cL_goes 71 = .ok (.iload_n 0, 1) := by decide +kernel
theorem dL_goes_72 : decode cL_goes 72 = .ok (.imul, 1) := by decide +kernel
theorem dL_goes_73 : decode cL_goes 73 = .ok (.iaload, 1) := by decide +kernel
theorem dL_goes_74 : decode cL_goes 74 = .ok (.if_icmp .eq 5, 3) := by decide +kernel
theorem dL_goes_77 : decode cL_goes 77 = .ok (.iconst 0, 1) := by decide +kernel
theorem dL_goes_78 : decode cL_goes 78 = .ok (.ireturn, 1) := by decide +kernel
theorem dL_goes_79 : decode cL_goes 79 = .ok (.aload_n 3, 1) := by decide +kernel
theorem dL_goes_80 : decode cL_goes 80 = .ok (.bipush 6, 2) := by decide +kernel
theorem dL_goes_82 : decode cL_goes 82 = .ok (.iload_n 0, 1) := by decide +kernel
theorem dL_goes_83 : decode cL_goes 83 = .ok (.imul, 1) := by decide +kernel
theorem dL_goes_84 : decode cL_goes 84 = .ok (.iconst 2, 1) := by decide +kernel
theorem dL_goes_85 : decode cL_goes 85 = .ok (.iadd, 1) := by decide +kernel
theorem dL_goes_86 : decode cL_goes 86 = .ok (.iconst 2, 1) := by decide +kernel
theorem dL_goes_87 : decode cL_goes 87 = .ok (.iastore, 1) := by decide +kernel
theorem dL_goes_88 : decode cL_goes 88 = .ok (.aload_n 2, 1) := by decide +kernel
theorem dL_goes_89 : decode cL_goes 89 = .ok (.iload 7, 2) := by decide +kernel
theorem dL_goes_91 : decode cL_goes 91 = .ok (.iaload, 1) := by decide +kernel
theorem dL_goes_92 : decode cL_goes 92 = .ok (.istore 8, 2) := by decide +kernel
theorem dL_goes_94 : decode cL_goes 94 = .ok (.aload_n 1, 1) := by decide +kernel
theorem dL_goes_95 : decode cL_goes 95 = .ok (.bipush 6, 2) := by decide +kernel
theorem dL_goes_97 : decode cL_goes 97 = .ok (.iload 8, 2) := by decide +kernel
theorem dL_goes_99 : decode cL_goes 99 = .ok (.imul, 1) := by decide +kernel
theorem dL_goes_100 : decode cL_goes 100 = .ok (.iaload, 1) := by decide +kernel
theorem dL_goes_101 : decode cL_goes 101 = .ok (.aload_n 1, 1) := by decide +kernel
theorem dL_goes_102 : decode cL_goes 102 = .ok (.bipush 6, 2) := by decide +kernel
theorem dL_goes_104 : decode cL_goes 104 = .ok (.iload 8, 2) := by decide +kernel
theorem dL_goes_106 : decode cL_goes 106 = .ok (.imul, 1) := by decide +kernel
theorem dL_goes_107 : decode cL_goes 107 = .ok (.iconst 1, 1) := by decide +kernel
theorem dL_goes_108 : decode cL_goes 108 = .ok (.iadd, 1) := by decide +kernel
theorem dL_goes_109 : decode cL_goes 109 = .ok (.iaload, 1) := by decide +kernel
theorem dL_goes_110 : decode cL_goes 110 = .ok (.if_icmp .lt 7, 3) := by decide +kernel
theorem dL_goes_113 : decode cL_goes 113 = .ok (.iconst 1, 1) := by decide +kernel
theorem dL_goes_114 : decode cL_goes 114 = .ok (.goto 4, 3) := by decide +kernel
theorem dL_goes_117 : decode cL_goes 117 = .ok (.iconst 0, 1) := by decide +kernel
theorem dL_goes_118 : decode cL_goes 118 = .ok (.istore 9, 2) := by decide +kernel
theorem dL_goes_120 : decode cL_goes 120 = .ok (.aload_n 1, 1) := by decide +kernel
theorem dL_goes_121 : decode cL_goes 121 = .ok (.bipush 6, 2) := by decide +kernel
theorem dL_goes_123 : decode cL_goes 123 = .ok (.iload 8, 2) := by decide +kernel
theorem dL_goes_125 : decode cL_goes 125 = .ok (.imul, 1) := by decide +kernel
theorem dL_goes_126 : decode cL_goes 126 = .ok (.dup2, 1) := by decide +kernel
theorem dL_goes_127 : decode cL_goes 127 = .ok (.iaload, 1) := by decide +kernel
theorem dL_goes_128 : decode cL_goes 128 = .ok (.iload 9, 2) := by decide +kernel
theorem dL_goes_130 : decode cL_goes 130 = .ok (.ifCond .eq 15, 3) := by decide +kernel
theorem dL_goes_133 : decode cL_goes 133 = .ok (.aload_n 1, 1) := by decide +kernel
theorem dL_goes_134 : decode cL_goes 134 = .ok (.bipush 6, 2) := by decide +kernel
theorem dL_goes_136 : decode cL_goes 136 = .ok (.iload 8, 2) := by decide +kernel
theorem dL_goes_138 : decode cL_goes 138 = .ok (.imul, 1) := by decide +kernel
theorem dL_goes_139 : decode cL_goes 139 = .ok (.iconst 1, 1) := by decide +kernel
theorem dL_goes_140 : decode cL_goes 140 = .ok (.iadd, 1) := by decide +kernel
theorem dL_goes_141 : decode cL_goes 141 = .ok (.iaload, 1) := by decide +kernel
theorem dL_goes_142 : decode cL_goes 142 = .ok (.goto 4, 3) := by decide +kernel
theorem dL_goes_145 : decode cL_goes 145 = .ok (.iconst 0, 1) := by decide +kernel
theorem dL_goes_146 : decode cL_goes 146 = .ok (.isub, 1) := by decide +kernel
theorem dL_goes_147 : decode cL_goes 147 = .ok (.iastore, 1) := by decide +kernel
theorem dL_goes_148 : decode cL_goes 148 = .ok (.aload_n 3, 1) := by decide +kernel
theorem dL_goes_149 : decode cL_goes 149 = .ok (.bipush 6, 2) := by decide +kernel
theorem dL_goes_151 : decode cL_goes 151 = .ok (.iload_n 0, 1) := by decide +kernel
theorem dL_goes_152 : decode cL_goes 152 = .ok (.imul, 1) := by decide +kernel
theorem dL_goes_153 : decode cL_goes 153 = .ok (.iconst 4, 1) := by decide +kernel
theorem dL_goes_154 : decode cL_goes 154 = .ok (.iadd, 1) := by decide +kernel
theorem dL_goes_155 : decode cL_goes 155 = .ok (.dup2, 1) := by decide +kernel
theorem dL_goes_156 : decode cL_goes 156 = .ok (.iaload, 1) := by decide +kernel
theorem dL_goes_157 : decode cL_goes 157 = .ok (.iload 9, 2) := by decide +kernel
theorem dL_goes_159 : decode cL_goes 159 = .ok (.ifCond .eq 7, 3) := by decide +kernel
theorem dL_goes_162 : decode cL_goes 162 = .ok (.iconst 0, 1) := by decide +kernel
theorem dL_goes_163 : decode cL_goes 163 = .ok (.goto 4, 3) := by decide +kernel
theorem dL_goes_166 : decode cL_goes 166 = .ok (.iconst 1, 1) := by decide +kernel
theorem dL_goes_167 : decode cL_goes 167 = .ok (.iadd, 1) := by decide +kernel
theorem dL_goes_168 : decode cL_goes 168 = .ok (.iastore, 1) := by decide +kernel
theorem dL_goes_169 : decode cL_goes 169 = .ok (.aload_n 1, 1) := by decide +kernel
theorem dL_goes_170 : decode cL_goes 170 = .ok (.bipush 6, 2) := by decide +kernel
theorem dL_goes_172 : decode cL_goes 172 = .ok (.iload 8, 2) := by decide +kernel
theorem dL_goes_174 : decode cL_goes 174 = .ok (.imul, 1) := by decide +kernel
theorem dL_goes_175 : decode cL_goes 175 = .ok (.iconst 2, 1) := by decide +kernel
theorem dL_goes_176 : decode cL_goes 176 = .ok (.iadd, 1) := by decide +kernel
theorem dL_goes_177 : decode cL_goes 177 = .ok (.iaload, 1) := by decide +kernel
theorem dL_goes_178 : decode cL_goes 178 = .ok (.iconst 1, 1) := by decide +kernel
theorem dL_goes_179 : decode cL_goes 179 = .ok (.if_icmp .ne 79, 3) := by decide +kernel
theorem dL_goes_182 : decode cL_goes 182 = .ok (.aload 6, 2) := by decide +kernel
theorem dL_goes_184 : decode cL_goes 184 = .ok (.iconst 3, 1) := by decide +kernel
theorem dL_goes_185 : decode cL_goes 185 = .ok (.iaload, 1) := by decide +kernel
theorem dL_goes_186 : decode cL_goes 186 = .ok (.bipush 40, 2) := by decide +kernel
theorem dL_goes_188 : decode cL_goes 188 = .ok (.if_icmp .ge 70, 3) := by decide +kernel
theorem dL_goes_191 : decode cL_goes 191 = .ok (.iload 8, 2) := by decide +kernel
theorem dL_goes_193 : decode cL_goes 193 = .ok (.iload_n 0, 1) := by decide +kernel
theorem dL_goes_194 : decode cL_goes 194 = .ok (.aload 6, 2) := by decide +kernel
theorem dL_goes_196 : decode cL_goes 196 = .ok (.iconst 0, 1) := by decide +kernel
theorem dL_goes_197 : decode cL_goes 197 = .ok (.iaload, 1) := by decide +kernel
theorem dL_goes_198 : decode cL_goes 198 = .ok (.aload 4, 2) := by decide +kernel
theorem dL_goes_200 : decode cL_goes 200 = .ok (.aload 5, 2) := by decide +kernel
theorem dL_goes_202 : decode cL_goes 202 = .ok (.aload 6, 2) := by decide +kernel
theorem dL_goes_204 : decode cL_goes 204 = .ok (.invokestatic 34, 3) := by decide +kernel
theorem dL_goes_207 : decode cL_goes 207 = .ok (.ifCond .ne 51, 3) := by decide +kernel
theorem dL_goes_210 : decode cL_goes 210 = .ok (.aload 4, 2) := by decide +kernel
theorem dL_goes_212 : decode cL_goes 212 = .ok (.aload 6, 2) := by decide +kernel
theorem dL_goes_214 : decode cL_goes 214 = .ok (.iconst 3, 1) := by decide +kernel
theorem dL_goes_215 : decode cL_goes 215 = .ok (.iaload, 1) := by decide +kernel
theorem dL_goes_216 : decode cL_goes 216 = .ok (.iload 8, 2) := by decide +kernel
theorem dL_goes_218 : decode cL_goes 218 = .ok (.bipush 8, 2) := by decide +kernel
theorem dL_goes_220 : decode cL_goes 220 = .ok (.iload_n 0, 1) := by decide +kernel
theorem dL_goes_221 : decode cL_goes 221 = .ok (.imul, 1) := by decide +kernel
theorem dL_goes_222 : decode cL_goes 222 = .ok (.iadd, 1) := by decide +kernel
theorem dL_goes_223 : decode cL_goes 223 = .ok (.bipush 64, 2) := by decide +kernel
theorem dL_goes_225 : decode cL_goes 225 = .ok (.aload 6, 2) := by decide +kernel
theorem dL_goes_227 : decode cL_goes 227 = .ok (.iconst 0, 1) := by decide +kernel
theorem dL_goes_228 : decode cL_goes 228 = .ok (.iaload, 1) := by decide +kernel
theorem dL_goes_229 : decode cL_goes 229 = .ok (.imul, 1) := by decide +kernel
theorem dL_goes_230 : decode cL_goes 230 = .ok (.iadd, 1) := by decide +kernel
theorem dL_goes_231 : decode cL_goes 231 = .ok (.iastore, 1) := by decide +kernel
theorem dL_goes_232 : decode cL_goes 232 = .ok (.aload 5, 2) := by decide +kernel
theorem dL_goes_234 : decode cL_goes 234 = .ok (.aload 6, 2) := by decide +kernel
theorem dL_goes_236 : decode cL_goes 236 = .ok (.iconst 3, 1) := by decide +kernel
theorem dL_goes_237 : decode cL_goes 237 = .ok (.iaload, 1) := by decide +kernel
theorem dL_goes_238 : decode cL_goes 238 = .ok (.aload 6, 2) := by decide +kernel
theorem dL_goes_240 : decode cL_goes 240 = .ok (.iconst 0, 1) := by decide +kernel
theorem dL_goes_241 : decode cL_goes 241 = .ok (.iaload, 1) := by decide +kernel
theorem dL_goes_242 : decode cL_goes 242 = .ok (.iload 8, 2) := by decide +kernel
theorem dL_goes_244 : decode cL_goes 244 = .ok (.aload_n 1, 1) := by decide +kernel
theorem dL_goes_245 : decode cL_goes 245 = .ok (.invokestatic 38, 3) := by decide +kernel
theorem dL_goes_248 : decode cL_goes 248 = .ok (.iadd, 1) := by decide +kernel
theorem dL_goes_249 : decode cL_goes 249 = .ok (.iastore, 1) := by decide +kernel
theorem dL_goes_250 : decode cL_goes 250 = .ok (.aload 6, 2) := by decide +kernel
theorem dL_goes_252 : decode cL_goes 252 = .ok (.iconst 3, 1) := by decide +kernel
theorem dL_goes_253 : decode cL_goes 253 = .ok (.dup2, 1) := by decide +kernel
theorem dL_goes_254 : decode cL_goes 254 = .ok (.iaload, 1) := by decide +kernel
theorem dL_goes_255 : decode cL_goes 255 = .ok (.iconst 1, 1) := by decide +kernel
theorem dL_goes_256 : decode cL_goes 256 = .ok (.iadd, 1) := by decide +kernel
theorem dL_goes_257 : decode cL_goes 257 = .ok (.iastore, 1) := by decide +kernel
theorem dL_goes_258 : decode cL_goes 258 = .ok (.iload 8, 2) := by decide +kernel
theorem dL_goes_260 : decode cL_goes 260 = .ok (.aload_n 3, 1) := by decide +kernel
theorem dL_goes_261 : decode cL_goes 261 = .ok (.bipush 6, 2) := by decide +kernel
theorem dL_goes_263 : decode cL_goes 263 = .ok (.iload_n 0, 1) := by decide +kernel
theorem dL_goes_264 : decode cL_goes 264 = .ok (.imul, 1) := by decide +kernel
theorem dL_goes_265 : decode cL_goes 265 = .ok (.iconst 1, 1) := by decide +kernel
theorem dL_goes_266 : decode cL_goes 266 = .ok (.iadd, 1) := by decide +kernel
theorem dL_goes_267 : decode cL_goes 267 = .ok (.iaload, 1) := by decide +kernel
theorem dL_goes_268 : decode cL_goes 268 = .ok (.if_icmp .ne 7, 3) := by decide +kernel
theorem dL_goes_271 : decode cL_goes 271 = .ok (.iconst 1, 1) := by decide +kernel
theorem dL_goes_272 : decode cL_goes 272 = .ok (.goto 4, 3) := by decide +kernel
theorem dL_goes_275 : decode cL_goes 275 = .ok (.iconst 0, 1) := by decide +kernel
theorem dL_goes_276 : decode cL_goes 276 = .ok (.istore 10, 2) := by decide +kernel
theorem dL_goes_278 : decode cL_goes 278 = .ok (.aload_n 3, 1) := by decide +kernel
theorem dL_goes_279 : decode cL_goes 279 = .ok (.bipush 6, 2) := by decide +kernel
theorem dL_goes_281 : decode cL_goes 281 = .ok (.iload_n 0, 1) := by decide +kernel
theorem dL_goes_282 : decode cL_goes 282 = .ok (.imul, 1) := by decide +kernel
theorem dL_goes_283 : decode cL_goes 283 = .ok (.iconst 2, 1) := by decide +kernel
theorem dL_goes_284 : decode cL_goes 284 = .ok (.iadd, 1) := by decide +kernel
theorem dL_goes_285 : decode cL_goes 285 = .ok (.iload 10, 2) := by decide +kernel
theorem dL_goes_287 : decode cL_goes 287 = .ok (.ifCond .eq 7, 3) := by decide +kernel
theorem dL_goes_290 : decode cL_goes 290 = .ok (.iconst 3, 1) := by decide +kernel
theorem dL_goes_291 : decode cL_goes 291 = .ok (.goto 4, 3) := by decide +kernel
theorem dL_goes_294 : decode cL_goes 294 = .ok (.iconst 2, 1) := by decide +kernel
theorem dL_goes_295 : decode cL_goes 295 = .ok (.iastore, 1) := by decide +kernel
theorem dL_goes_296 : decode cL_goes 296 = .ok (.aload_n 2, 1) := by decide +kernel
theorem dL_goes_297 : decode cL_goes 297 = .ok (.iload 7, 2) := by decide +kernel
theorem dL_goes_299 : decode cL_goes 299 = .ok (.iconst 2, 1) := by decide +kernel
theorem dL_goes_300 : decode cL_goes 300 = .ok (.iadd, 1) := by decide +kernel
theorem dL_goes_301 : decode cL_goes 301 = .ok (.iload 10, 2) := by decide +kernel
theorem dL_goes_303 : decode cL_goes 303 = .ok (.ifCond .eq 7, 3) := by decide +kernel
theorem dL_goes_306 : decode cL_goes 306 = .ok (.iconst (-1), 1) := by decide +kernel
theorem dL_goes_307 : decode cL_goes 307 = .ok (.goto 4, 3) := by decide +kernel
theorem dL_goes_310 : decode cL_goes 310 = .ok (.iload_n 0, 1) := by decide +kernel
theorem dL_goes_311 : decode cL_goes 311 = .ok (.iastore, 1) := by decide +kernel
theorem dL_goes_312 : decode cL_goes 312 = .ok (.iload 10, 2) := by decide +kernel
theorem dL_goes_314 : decode cL_goes 314 = .ok (.ireturn, 1) := by decide +kernel
theorem dL_isSo_0 : decode cL_isSo 0 = .ok (.iconst 0, 1) := by decide +kernel
theorem dL_isSo_1 : decode cL_isSo 1 = .ok (.istore 8, 2) := by decide +kernel
theorem dL_isSo_3 : decode cL_isSo 3 = .ok (.aload_n 0, 1) := by decide +kernel
theorem dL_isSo_4 : decode cL_isSo 4 = .ok (.invokevirtual 42, 3) := by decide +kernel
theorem dL_isSo_7 : decode cL_isSo 7 = .ok (.aload 7, 2) := by decide +kernel
theorem dL_isSo_9 : decode cL_isSo 9 = .ok (.iconst 0, 1) := by decide +kernel
theorem dL_isSo_10 : decode cL_isSo 10 = .ok (.iaload, 1) := by decide +kernel
theorem dL_isSo_11 : decode cL_isSo 11 = .ok (.if_icmp .ne 40, 3) := by decide +kernel
theorem dL_isSo_14 : decode cL_isSo 14 = .ok (.aload_n 0, 1) := by decide +kernel
theorem dL_isSo_15 : decode cL_isSo 15 = .ok (.invokevirtual 45, 3) := by decide +kernel
theorem dL_isSo_18 : decode cL_isSo 18 = .ok (.aload 7, 2) := by decide +kernel
theorem dL_isSo_20 : decode cL_isSo 20 = .ok (.iconst 1, 1) := by decide +kernel
theorem dL_isSo_21 : decode cL_isSo 21 = .ok (.iaload, 1) := by decide +kernel
theorem dL_isSo_22 : decode cL_isSo 22 = .ok (.if_icmp .ne 29, 3) := by decide +kernel
theorem dL_isSo_25 : decode cL_isSo 25 = .ok (.aload_n 0, 1) := by decide +kernel
theorem dL_isSo_26 : decode cL_isSo 26 = .ok (.invokevirtual 48, 3) := by decide +kernel
theorem dL_isSo_29 : decode cL_isSo 29 = .ok (.aload 7, 2) := by decide +kernel
theorem dL_isSo_31 : decode cL_isSo 31 = .ok (.iconst 2, 1) := by decide +kernel
theorem dL_isSo_32 : decode cL_isSo 32 = .ok (.iaload, 1) := by decide +kernel
theorem dL_isSo_33 : decode cL_isSo 33 = .ok (.if_icmp .ne 18, 3) := by decide +kernel
theorem dL_isSo_36 : decode cL_isSo 36 = .ok (.aload_n 0, 1) := by decide +kernel
theorem dL_isSo_37 : decode cL_isSo 37 = .ok (.invokevirtual 51, 3) := by decide +kernel
theorem dL_isSo_40 : decode cL_isSo 40 = .ok (.aload 7, 2) := by decide +kernel
theorem dL_isSo_42 : decode cL_isSo 42 = .ok (.iconst 3, 1) := by decide +kernel
theorem dL_isSo_43 : decode cL_isSo 43 = .ok (.iaload, 1) := by decide +kernel
theorem dL_isSo_44 : decode cL_isSo 44 = .ok (.if_icmp .ne 7, 3) := by decide +kernel
theorem dL_isSo_47 : decode cL_isSo 47 = .ok (.iconst 1, 1) := by decide +kernel
theorem dL_isSo_48 : decode cL_isSo 48 = .ok (.goto 4, 3) := by decide +kernel
theorem dL_isSo_51 : decode cL_isSo 51 = .ok (.iconst 0, 1) := by decide +kernel
theorem dL_isSo_52 : decode cL_isSo 52 = .ok (.istore 9, 2) := by decide +kernel
theorem dL_isSo_54 : decode cL_isSo 54 = .ok (.iconst 0, 1) := by decide +kernel
theorem dL_isSo_55 : decode cL_isSo 55 = .ok (.istore 10, 2) := by decide +kernel
theorem dL_isSo_57 : decode cL_isSo 57 = .ok (.iload 10, 2) := by decide +kernel
theorem dL_isSo_59 : decode cL_isSo 59 = .ok (.bipush 8, 2) := by decide +kernel
theorem dL_isSo_61 : decode cL_isSo 61 = .ok (.if_icmp .ge 63, 3) := by decide +kernel
theorem dL_isSo_64 : decode cL_isSo 64 = .ok (.iload 9, 2) := by decide +kernel
theorem dL_isSo_66 : decode cL_isSo 66 = .ok (.ifCond .eq 58, 3) := by decide +kernel
theorem dL_isSo_69 : decode cL_isSo 69 = .ok (.aload_n 0, 1) := by decide +kernel
theorem dL_isSo_70 : decode cL_isSo 70 = .ok (.iload 10, 2) := by decide +kernel
theorem dL_isSo_72 : decode cL_isSo 72 = .ok (.invokevirtual 54, 3) := by decide +kernel
theorem dL_isSo_75 : decode cL_isSo 75 = .ok (.aload_n 2, 1) := by decide +kernel
theorem dL_isSo_76 : decode cL_isSo 76 = .ok (.bipush 6, 2) := by decide +kernel
theorem dL_isSo_78 : decode cL_isSo 78 = .ok (.iload 10, 2) := by decide +kernel
theorem dL_isSo_80 : decode cL_isSo 80 = .ok (.imul, 1) := by decide +kernel
theorem dL_isSo_81 : decode cL_isSo 81 = .ok (.iaload, 1) := by decide +kernel
theorem dL_isSo_82 : decode cL_isSo 82 = .ok (.if_icmp .ne 33, 3) := by decide +kernel
theorem dL_isSo_85 : decode cL_isSo 85 = .ok (.aload_n 0, 1) := by decide +kernel
theorem dL_isSo_86 : decode cL_isSo 86 = .ok (.iload 10, 2) := by decide +kernel
theorem dL_isSo_88 : decode cL_isSo 88 = .ok (.iload_n 1, 1) := by decide +kernel
theorem dL_isSo_89 : decode cL_isSo 89 = .ok (.bipush 8, 2) := by decide +kernel
theorem dL_isSo_91 : decode cL_isSo 91 = .ok (.invokestatic 58, 3) := by decide +kernel
theorem dL_isSo_94 : decode cL_isSo 94 = .ok (.invokevirtual 61, 3) := by decide +kernel
theorem dL_isSo_97 : decode cL_isSo 97 = .ok (.iload 10, 2) := by decide +kernel
theorem dL_isSo_99 : decode cL_isSo 99 = .ok (.iload_n 1, 1) := by decide +kernel
theorem dL_isSo_100 : decode cL_isSo 100 = .ok (.bipush 8, 2) := by decide +kernel
theorem dL_isSo_102 : decode cL_isSo 102 = .ok (.invokestatic 58, 3) := by decide +kernel
theorem dL_isSo_105 : decode cL_isSo 105 = .ok (.invokestatic 26, 3) := by decide +kernel
theorem dL_isSo_108 : decode cL_isSo 108 = .ok (.if_icmp .ne 7, 3) := by decide +kernel
theorem dL_isSo_111 : decode cL_isSo 111 = .ok (.iconst 1, 1) := by decide +kernel
theorem dL_isSo_112 : decode cL_isSo 112 = .ok (.goto 4, 3) := by decide +kernel
theorem dL_isSo_115 : decode cL_isSo 115 = .ok (.iconst 0, 1) := by decide +kernel
theorem dL_isSo_116 : decode cL_isSo 116 = .ok (.istore 9, 2) := by decide +kernel
theorem dL_isSo_118 : decode cL_isSo 118 = .ok (.iinc 10 1, 3) := by decide +kernel
theorem dL_isSo_121 : decode cL_isSo 121 = .ok (.goto (-64), 3) := by decide +kernel
theorem dL_isSo_124 : decode cL_isSo 124 = .ok (.iconst 0, 1) := by decide +kernel
theorem dL_isSo_125 : decode cL_isSo 125 = .ok (.istore 10, 2) := by decide +kernel
theorem dL_isSo_127 : decode cL_isSo 127 = .ok (.iload 10, 2) := by decide +kernel
theorem dL_isSo_129 : decode cL_isSo 129 = .ok (.iconst 4, 1) := by decide +kernel
theorem dL_isSo_130 : decode cL_isSo 130 = .ok (.if_icmp .ge 53, 3) := by decide +kernel
theorem dL_isSo_133 : decode cL_isSo 133 = .ok (.iload 9, 2) := by decide +kernel
theorem dL_isSo_135 : decode cL_isSo 135 = .ok (.ifCond .eq 48, 3) := by decide +kernel
theorem dL_isSo_138 : decode cL_isSo 138 = .ok (.aload_n 0, 1) := by decide +kernel
theorem dL_isSo_139 : decode cL_isSo 139 = .ok (.iload 10, 2) := by decide +kernel
theorem dL_isSo_141 : decode cL_isSo 141 = .ok (.invokevirtual 62, 3) := by decide +kernel
theorem dL_isSo_144 : decode cL_isSo 144 = .ok (.aload_n 3, 1) := by decide +kernel
theorem dL_isSo_145 : decode cL_isSo 145 = .ok (.iconst 3, 1) := by decide +kernel
theorem dL_isSo_146 : decode cL_isSo 146 = .ok (.iload 10, 2) := by decide +kernel
theorem dL_isSo_148 : decode cL_isSo 148 = .ok (.imul, 1) := by decide +kernel
theorem dL_isSo_149 : decode cL_isSo 149 = .ok (.iaload, 1) := by decide +kernel
theorem dL_isSo_150 : decode cL_isSo 150 = .ok (.if_icmp .ne 24, 3) := by decide +kernel
theorem dL_isSo_153 : decode cL_isSo 153 = .ok (.aload_n 0, 1) := by decide +kernel
theorem dL_isSo_154 : decode cL_isSo 154 = .ok (.iload 10, 2) := by decide +kernel
theorem dL_isSo_156 : decode cL_isSo 156 = .ok (.invokevirtual 65, 3) := by decide +kernel
theorem dL_isSo_159 : decode cL_isSo 159 = .ok (.aload_n 3, 1) := by decide +kernel
theorem dL_isSo_160 : decode cL_isSo 160 = .ok (.iconst 3, 1) := by decide +kernel
theorem dL_isSo_161 : decode cL_isSo 161 = .ok (.iload 10, 2) := by decide +kernel
theorem dL_isSo_163 : decode cL_isSo 163 = .ok (.imul, 1) := by decide +kernel
theorem dL_isSo_164 : decode cL_isSo 164 = .ok (.iconst 1, 1) := by decide +kernel
theorem dL_isSo_165 : decode cL_isSo 165 = .ok (.iadd, 1) := by decide +kernel
theorem dL_isSo_166 : decode cL_isSo 166 = .ok (.iaload, 1) := by decide +kernel
theorem dL_isSo_167 : decode cL_isSo 167 = .ok (.if_icmp .ne 7, 3) := by decide +kernel
theorem dL_isSo_170 : decode cL_isSo 170 = .ok (.iconst 1, 1) := by decide +kernel
theorem dL_isSo_171 : decode cL_isSo 171 = .ok (.goto 4, 3) := by decide +kernel
theorem dL_isSo_174 : decode cL_isSo 174 = .ok (.iconst 0, 1) := by decide +kernel
theorem dL_isSo_175 : decode cL_isSo 175 = .ok (.istore 9, 2) := by decide +kernel
theorem dL_isSo_177 : decode cL_isSo 177 = .ok (.iinc 10 1, 3) := by decide +kernel
theorem dL_isSo_180 : decode cL_isSo 180 = .ok (.goto (-53), 3) := by decide +kernel
theorem dL_isSo_183 : decode cL_isSo 183 = .ok (.iconst 0, 1) := by decide +kernel
theorem dL_isSo_184 : decode cL_isSo 184 = .ok (.istore 10, 2) := by decide +kernel
theorem dL_isSo_186 : decode cL_isSo 186 = .ok (.iload 10, 2) := by decide +kernel
theorem dL_isSo_188 : decode cL_isSo 188 = .ok (.aload 7, 2) := by decide +kernel
theorem dL_isSo_190 : decode cL_isSo 190 = .ok (.iconst 2, 1) := by decide +kernel
theorem dL_isSo_191 : decode cL_isSo 191 = .ok (.iaload, 1) := by decide +kernel
theorem dL_isSo_192 : decode cL_isSo 192 = .ok (.if_icmp .ge 78, 3) := by decide +kernel
theorem dL_isSo_195 : decode cL_isSo 195 = .ok (.iload 9, 2) := by decide +kernel
theorem dL_isSo_197 : decode cL_isSo 197 = .ok (.ifCond .eq 73, 3) := by decide +kernel
theorem dL_isSo_200 : decode cL_isSo 200 = .ok (.aload_n 0, 1) := by decide +kernel
theorem dL_isSo_201 : decode cL_isSo 201 = .ok (.iload 10, 2) := by decide +kernel
theorem dL_isSo_203 : decode cL_isSo 203 = .ok (.invokevirtual 68, 3) := by decide +kernel
theorem dL_isSo_206 : decode cL_isSo 206 = .ok (.aload 4, 2) := by decide +kernel
theorem dL_isSo_208 : decode cL_isSo 208 = .ok (.bipush 6, 2) := by decide +kernel
theorem dL_isSo_210 : decode cL_isSo 210 = .ok (.iload 10, 2) := by decide +kernel
theorem dL_isSo_212 : decode cL_isSo 212 = .ok (.imul, 1) := by decide +kernel
theorem dL_isSo_213 : decode cL_isSo 213 = .ok (.iconst 2, 1) := by decide +kernel
theorem dL_isSo_214 : decode cL_isSo 214 = .ok (.iadd, 1) := by decide +kernel
theorem dL_isSo_215 : decode cL_isSo 215 = .ok (.iaload, 1) := by decide +kernel
theorem dL_isSo_216 : decode cL_isSo 216 = .ok (.if_icmp .ne 45, 3) := by decide +kernel
theorem dL_isSo_219 : decode cL_isSo 219 = .ok (.aload_n 0, 1) := by decide +kernel
theorem dL_isSo_220 : decode cL_isSo 220 = .ok (.iload 10, 2) := by decide +kernel
theorem dL_isSo_222 : decode cL_isSo 222 = .ok (.invokevirtual 71, 3) := by decide +kernel
theorem dL_isSo_225 : decode cL_isSo 225 = .ok (.aload 4, 2) := by decide +kernel
theorem dL_isSo_227 : decode cL_isSo 227 = .ok (.bipush 6, 2) := by decide +kernel
theorem dL_isSo_229 : decode cL_isSo 229 = .ok (.iload 10, 2) := by decide +kernel
theorem dL_isSo_231 : decode cL_isSo 231 = .ok (.imul, 1) := by decide +kernel
theorem dL_isSo_232 : decode cL_isSo 232 = .ok (.iconst 3, 1) := by decide +kernel
theorem dL_isSo_233 : decode cL_isSo 233 = .ok (.iadd, 1) := by decide +kernel
theorem dL_isSo_234 : decode cL_isSo 234 = .ok (.iaload, 1) := by decide +kernel
theorem dL_isSo_235 : decode cL_isSo 235 = .ok (.if_icmp .ne 26, 3) := by decide +kernel
theorem dL_isSo_238 : decode cL_isSo 238 = .ok (.aload_n 0, 1) := by decide +kernel
theorem dL_isSo_239 : decode cL_isSo 239 = .ok (.iload 10, 2) := by decide +kernel
theorem dL_isSo_241 : decode cL_isSo 241 = .ok (.invokevirtual 74, 3) := by decide +kernel
theorem dL_isSo_244 : decode cL_isSo 244 = .ok (.aload 4, 2) := by decide +kernel
theorem dL_isSo_246 : decode cL_isSo 246 = .ok (.bipush 6, 2) := by decide +kernel
theorem dL_isSo_248 : decode cL_isSo 248 = .ok (.iload 10, 2) := by decide +kernel
theorem dL_isSo_250 : decode cL_isSo 250 = .ok (.imul, 1) := by decide +kernel
theorem dL_isSo_251 : decode cL_isSo 251 = .ok (.iconst 4, 1) := by decide +kernel
theorem dL_isSo_252 : decode cL_isSo 252 = .ok (.iadd, 1) := by decide +kernel
theorem dL_isSo_253 : decode cL_isSo 253 = .ok (.iaload, 1) := by decide +kernel
theorem dL_isSo_254 : decode cL_isSo 254 = .ok (.if_icmp .ne 7, 3) := by decide +kernel
theorem dL_isSo_257 : decode cL_isSo 257 = .ok (.iconst 1, 1) := by decide +kernel
theorem dL_isSo_258 : decode cL_isSo 258 = .ok (.goto 4, 3) := by decide +kernel
theorem dL_isSo_261 : decode cL_isSo 261 = .ok (.iconst 0, 1) := by decide +kernel
theorem dL_isSo_262 : decode cL_isSo 262 = .ok (.istore 9, 2) := by decide +kernel
theorem dL_isSo_264 : decode cL_isSo 264 = .ok (.iinc 10 1, 3) := by decide +kernel
theorem dL_isSo_267 : decode cL_isSo 267 = .ok (.goto (-81), 3) := by decide +kernel
theorem dL_isSo_270 : decode cL_isSo 270 = .ok (.iconst 0, 1) := by decide +kernel
theorem dL_isSo_271 : decode cL_isSo 271 = .ok (.istore 10, 2) := by decide +kernel
theorem dL_isSo_273 : decode cL_isSo 273 = .ok (.iload 10, 2) := by decide +kernel
theorem dL_isSo_275 : decode cL_isSo 275 = .ok (.aload 7, 2) := by decide +kernel
theorem dL_isSo_277 : decode cL_isSo 277 = .ok (.iconst 3, 1) := by decide +kernel
theorem dL_isSo_278 : decode cL_isSo 278 = .ok (.iaload, 1) := by decide +kernel
theorem dL_isSo_279 : decode cL_isSo 279 = .ok (.if_icmp .ge 31, 3) := by decide +kernel
theorem dL_isSo_282 : decode cL_isSo 282 = .ok (.iload 8, 2) := by decide +kernel
theorem dL_isSo_284 : decode cL_isSo 284 = .ok (.aload 6, 2) := by decide +kernel
theorem dL_isSo_286 : decode cL_isSo 286 = .ok (.iload 10, 2) := by decide +kernel
theorem dL_isSo_288 : decode cL_isSo 288 = .ok (.iaload, 1) := by decide +kernel
theorem dL_isSo_289 : decode cL_isSo 289 = .ok (.aload 7, 2) := by decide +kernel
theorem dL_isSo_291 : decode cL_isSo 291 = .ok (.iconst 0, 1) := by decide +kernel
theorem dL_isSo_292 : decode cL_isSo 292 = .ok (.iaload, 1) := by decide +kernel
theorem dL_isSo_293 : decode cL_isSo 293 = .ok (.if_icmp .le 7, 3) := by decide +kernel
theorem dL_isSo_296 : decode cL_isSo 296 = .ok (.iconst 1, 1) := by decide +kernel
theorem dL_isSo_297 : decode cL_isSo 297 = .ok (.goto 4, 3) := by decide +kernel
theorem dL_isSo_300 : decode cL_isSo 300 = .ok (.iconst 0, 1) := by decide +kernel
theorem dL_isSo_301 : decode cL_isSo 301 = .ok (.iadd, 1) := by decide +kernel
theorem dL_isSo_302 : decode cL_isSo 302 = .ok (.istore 8, 2) := by decide +kernel
theorem dL_isSo_304 : decode cL_isSo 304 = .ok (.iinc 10 1, 3) := by decide +kernel
theorem dL_isSo_307 : decode cL_isSo 307 = .ok (.goto (-34), 3) := by decide +kernel
theorem dL_isSo_310 : decode cL_isSo 310 = .ok (.iload 9, 2) := by decide +kernel
theorem dL_isSo_312 : decode cL_isSo 312 = .ok (.ifCond .eq 16, 3) := by decide +kernel
theorem dL_isSo_315 : decode cL_isSo 315 = .ok (.aload_n 0, 1) := by decide +kernel
theorem dL_isSo_316 : decode cL_isSo 316 = .ok (.invokevirtual 77, 3) := by decide +kernel
theorem dL_isSo_319 : decode cL_isSo 319 = .ok (.iload 8, 2) := by decide +kernel
theorem dL_isSo_321 : decode cL_isSo 321 = .ok (.if_icmp .ne 7, 3) := by decide +kernel
theorem dL_isSo_324 : decode cL_isSo 324 = .ok (.iconst 1, 1) := by decide +kernel
theorem dL_isSo_325 : decode cL_isSo 325 = .ok (.goto 4, 3) := by decide +kernel
theorem dL_isSo_328 : decode cL_isSo 328 = .ok (.iconst 0, 1) := by decide +kernel
theorem dL_isSo_329 : decode cL_isSo 329 = .ok (.istore 9, 2) := by decide +kernel
theorem dL_isSo_331 : decode cL_isSo 331 = .ok (.iconst 0, 1) := by decide +kernel
theorem dL_isSo_332 : decode cL_isSo 332 = .ok (.istore 10, 2) := by decide +kernel
theorem dL_isSo_334 : decode cL_isSo 334 = .ok (.iload 10, 2) := by decide +kernel
theorem dL_isSo_336 : decode cL_isSo 336 = .ok (.iconst 4, 1) := by decide +kernel
theorem dL_isSo_337 : decode cL_isSo 337 = .ok (.if_icmp .ge 188, 3) := by decide +kernel
theorem dL_isSo_340 : decode cL_isSo 340 = .ok (.iload 9, 2) := by decide +kernel
theorem dL_isSo_342 : decode cL_isSo 342 = .ok (.ifCond .eq 183, 3) := by decide +kernel
theorem dL_isSo_345 : decode cL_isSo 345 = .ok (.aload 7, 2) := by decide +kernel
theorem dL_isSo_347 : decode cL_isSo 347 = .ok (.iconst 2, 1) := by decide +kernel
theorem dL_isSo_348 : decode cL_isSo 348 = .ok (.iaload, 1) := by decide +kernel
theorem dL_isSo_349 : decode cL_isSo 349 = .ok (.ifCond .le 176, 3) := by decide +kernel
theorem dL_isSo_352 : decode cL_isSo 352 = .ok (.aload 7, 2) := by decide +kernel
theorem dL_isSo_354 : decode cL_isSo 354 = .ok (.iconst 3, 1) := by decide +kernel
theorem dL_isSo_355 : decode cL_isSo 355 = .ok (.iaload, 1) := by decide +kernel
theorem dL_isSo_356 : decode cL_isSo 356 = .ok (.ifCond .eq 9, 3) := by decide +kernel
theorem dL_isSo_359 : decode cL_isSo 359 = .ok (.iload 10, 2) := by decide +kernel
theorem dL_isSo_361 : decode cL_isSo 361 = .ok (.iconst 2, 1) := by decide +kernel
theorem dL_isSo_362 : decode cL_isSo 362 = .ok (.if_icmp .le 49, 3) := by decide +kernel
theorem dL_isSo_365 : decode cL_isSo 365 = .ok (.iload_n 1, 1) := by decide +kernel
theorem dL_isSo_366 : decode cL_isSo 366 = .ok (.iload 10, 2) := by decide +kernel
theorem dL_isSo_368 : decode cL_isSo 368 = .ok (.ishr, 1) := by decide +kernel
theorem dL_isSo_369 : decode cL_isSo 369 = .ok (.bipush 8, 2) := by decide +kernel
theorem dL_isSo_371 : decode cL_isSo 371 = .ok (.invokestatic 58, 3) := by decide +kernel
theorem dL_isSo_374 : decode cL_isSo 374 = .ok (.bipush 8, 2) := by decide +kernel
theorem dL_isSo_376 : decode cL_isSo 376 = .ok (.iload_n 1, 1) := by decide +kernel
theorem dL_isSo_377 : decode cL_isSo 377 = .ok (.iconst 4, 1) := by decide +kernel
theorem dL_isSo_378 : decode cL_isSo 378 = .ok (.iload 10, 2) := by decide +kernel
theorem dL_isSo_380 : decode cL_isSo 380 = .ok (.iadd, 1) := by decide +kernel
theorem dL_isSo_381 : decode cL_isSo 381 = .ok (.ishr, 1) := by decide +kernel
theorem dL_isSo_382 : decode cL_isSo 382 = .ok (.aload 7, 2) := by decide +kernel
theorem dL_isSo_384 : decode cL_isSo 384 = .ok (.iconst 2, 1) := by decide +kernel
theorem dL_isSo_385 : decode cL_isSo 385 = .ok (.iaload, 1) := by decide +kernel
theorem dL_isSo_386 : decode cL_isSo 386 = .ok (.invokestatic 58, 3) := by decide +kernel
theorem dL_isSo_389 : decode cL_isSo 389 = .ok (.imul, 1) := by decide +kernel
theorem dL_isSo_390 : decode cL_isSo 390 = .ok (.iadd, 1) := by decide +kernel
theorem dL_isSo_391 : decode cL_isSo 391 = .ok (.bipush 64, 2) := by decide +kernel
theorem dL_isSo_393 : decode cL_isSo 393 = .ok (.iload_n 1, 1) := by decide +kernel
theorem dL_isSo_394 : decode cL_isSo 394 = .ok (.bipush 7, 2) := by decide +kernel
theorem dL_isSo_396 : decode cL_isSo 396 = .ok (.ishr, 1) := by decide +kernel
theorem dL_isSo_397 : decode cL_isSo 397 = .ok (.aload 7, 2) := by decide +kernel
theorem dL_isSo_399 : decode cL_isSo 399 = .ok (.iconst 0, 1) := by decide +kernel
theorem dL_isSo_400 : decode cL_isSo 400 = .ok (.iaload, 1) := by decide +kernel
theorem dL_isSo_401 : decode cL_isSo 401 = .ok (.iconst 2, 1) := by decide +kernel
theorem dL_isSo_402 : decode cL_isSo 402 = .ok (.iadd, 1) := by decide +kernel
theorem dL_isSo_403 : decode cL_isSo 403 = .ok (.invokestatic 58, 3) := by decide +kernel
theorem dL_isSo_406 : decode cL_isSo 406 = .ok (.imul, 1) := by decide +kernel
theorem dL_isSo_407 : decode cL_isSo 407 = .ok (.iadd, 1) := by decide +kernel
theorem dL_isSo_408 : decode cL_isSo 408 = .ok (.goto 19, 3) := by decide +kernel
theorem dL_isSo_411 : decode cL_isSo 411 = .ok (.aload 5, 2) := by decide +kernel
theorem dL_isSo_413 : decode cL_isSo 413 = .ok (.iload_n 1, 1) := by decide +kernel
theorem dL_isSo_414 : decode cL_isSo 414 = .ok (.iconst 3, 1) := by decide +kernel
theorem dL_isSo_415 : decode cL_isSo 415 = .ok (.iload 10, 2) := by decide +kernel
theorem dL_isSo_417 : decode cL_isSo 417 = .ok (.imul, 1) := by decide +kernel
theorem dL_isSo_418 : decode cL_isSo 418 = .ok (.ishr, 1) := by decide +kernel
theorem dL_isSo_419 : decode cL_isSo 419 = .ok (.aload 7, 2) := by decide +kernel
theorem dL_isSo_421 : decode cL_isSo 421 = .ok (.iconst 3, 1) := by decide +kernel
theorem dL_isSo_422 : decode cL_isSo 422 = .ok (.iaload, 1) := by decide +kernel
theorem dL_isSo_423 : decode cL_isSo 423 = .ok (.invokestatic 58, 3) := by decide +kernel
theorem dL_isSo_426 : decode cL_isSo 426 = .ok (.iaload, 1) := by decide +kernel
theorem dL_isSo_427 : decode cL_isSo 427 = .ok (.istore 11, 2) := by decide +kernel
theorem dL_isSo_429 : decode cL_isSo 429 = .ok (.iload 11, 2) := by decide +kernel
theorem dL_isSo_431 : decode cL_isSo 431 = .ok (.bipush 8, 2) := by decide +kernel
theorem dL_isSo_433 : decode cL_isSo 433 = .ok (.irem, 1) := by decide +kernel
theorem dL_isSo_434 : decode cL_isSo 434 = .ok (.iload 11, 2) := by decide +kernel
theorem dL_isSo_436 : decode cL_isSo 436 = .ok (.bipush 8, 2) := by decide +kernel
theorem dL_isSo_438 : decode cL_isSo 438 = .ok (.idiv, 1) := by decide +kernel
theorem dL_isSo_439 : decode cL_isSo 439 = .ok (.bipush 8, 2) := by decide +kernel
theorem dL_isSo_441 : decode cL_isSo 441 = .ok (.irem, 1) := by decide +kernel
theorem dL_isSo_442 : decode cL_isSo 442 = .ok (.iload 11, 2) := by decide +kernel
theorem dL_isSo_444 : decode cL_isSo 444 = .ok (.bipush 64, 2) := by decide +kernel
theorem dL_isSo_446 : decode cL_isSo 446 = .ok (.idiv, 1) := by decide +kernel
theorem dL_isSo_447 : decode cL_isSo 447 = .ok (.aload 5, 2) := by decide +kernel
theorem dL_isSo_449 : decode cL_isSo 449 = .ok (.aload 6, 2) := by decide +kernel
theorem dL_isSo_451 : decode cL_isSo 451 = .ok (.aload 7, 2) := by decide +kernel
theorem dL_isSo_453 : decode cL_isSo 453 = .ok (.invokestatic 34, 3) := by decide +kernel
theorem dL_isSo_456 : decode cL_isSo 456 = .ok (.istore 12, 2) := by decide +kernel
theorem dL_isSo_458 : decode cL_isSo 458 = .ok (.aload_n 0, 1) := by decide +kernel
theorem dL_isSo_459 : decode cL_isSo 459 = .ok (.iload 11, 2) := by decide +kernel
theorem dL_isSo_461 : decode cL_isSo 461 = .ok (.bipush 8, 2) := by decide +kernel
theorem dL_isSo_463 : decode cL_isSo 463 = .ok (.irem, 1) := by decide +kernel
theorem dL_isSo_464 : decode cL_isSo 464 = .ok (.iload 11, 2) := by decide +kernel
theorem dL_isSo_466 : decode cL_isSo 466 = .ok (.bipush 8, 2) := by decide +kernel
theorem dL_isSo_468 : decode cL_isSo 468 = .ok (.idiv, 1) := by decide +kernel
theorem dL_isSo_469 : decode cL_isSo 469 = .ok (.bipush 8, 2) := by decide +kernel
theorem dL_isSo_471 : decode cL_isSo 471 = .ok (.irem, 1) := by decide +kernel
theorem dL_isSo_472 : decode cL_isSo 472 = .ok (.iload 11, 2) := by decide +kernel
theorem dL_isSo_474 : decode cL_isSo 474 = .ok (.bipush 64, 2) := by decide +kernel
theorem dL_isSo_476 : decode cL_isSo 476 = .ok (.idiv, 1) := by decide +kernel
theorem dL_isSo_477 : decode cL_isSo 477 = .ok (.invokevirtual 80, 3) := by decide +kernel
theorem dL_isSo_480 : decode cL_isSo 480 = .ok (.iload 12, 2) := by decide +kernel
theorem dL_isSo_482 : decode cL_isSo 482 = .ok (.if_icmp .ne 34, 3) := by decide +kernel
theorem dL_isSo_485 : decode cL_isSo 485 = .ok (.aload_n 0, 1) := by decide +kernel
theorem dL_isSo_486 : decode cL_isSo 486 = .ok (.iload 11, 2) := by decide +kernel
theorem dL_isSo_488 : decode cL_isSo 488 = .ok (.bipush 8, 2) := by decide +kernel
theorem dL_isSo_490 : decode cL_isSo 490 = .ok (.irem, 1) := by decide +kernel
theorem dL_isSo_491 : decode cL_isSo 491 = .ok (.iload 11, 2) := by decide +kernel
theorem dL_isSo_493 : decode cL_isSo 493 = .ok (.bipush 8, 2) := by decide +kernel
theorem dL_isSo_495 : decode cL_isSo 495 = .ok (.idiv, 1) := by decide +kernel
theorem dL_isSo_496 : decode cL_isSo 496 = .ok (.bipush 8, 2) := by decide +kernel
theorem dL_isSo_498 : decode cL_isSo 498 = .ok (.irem, 1) := by decide +kernel
theorem dL_isSo_499 : decode cL_isSo 499 = .ok (.iload 11, 2) := by decide +kernel
theorem dL_isSo_501 : decode cL_isSo 501 = .ok (.bipush 64, 2) := by decide +kernel
theorem dL_isSo_503 : decode cL_isSo 503 = .ok (.idiv, 1) := by decide +kernel
theorem dL_isSo_504 : decode cL_isSo 504 = .ok (.invokevirtual 83, 3) := by decide +kernel
theorem dL_isSo_507 : decode cL_isSo 507 = .ok (.iload 12, 2) := by decide +kernel
theorem dL_isSo_509 : decode cL_isSo 509 = .ok (.if_icmp .ne 7, 3) := by decide +kernel
theorem dL_isSo_512 : decode cL_isSo 512 = .ok (.iconst 1, 1) := by decide +kernel
theorem dL_isSo_513 : decode cL_isSo 513 = .ok (.goto 4, 3) := by decide +kernel
theorem dL_isSo_516 : decode cL_isSo 516 = .ok (.iconst 0, 1) := by decide +kernel
theorem dL_isSo_517 : decode cL_isSo 517 = .ok (.istore 9, 2) := by decide +kernel
theorem dL_isSo_519 : decode cL_isSo 519 = .ok (.iinc 10 1, 3) := by decide +kernel
theorem dL_isSo_522 : decode cL_isSo 522 = .ok (.goto (-188), 3) := by decide +kernel
theorem dL_isSo_525 : decode cL_isSo 525 = .ok (.iload 9, 2) := by decide +kernel
theorem dL_isSo_527 : decode cL_isSo 527 = .ok (.ireturn, 1) := by decide +kernel
theorem dL_streets_0 : decode cL_streets 0 = .ok (.iload_n 2, 1) := by decide +kernel
theorem dL_streets_1 : decode cL_streets 1 = .ok (.bipush 8, 2) := by decide +kernel
theorem dL_streets_3 : decode cL_streets 3 = .ok (.invokestatic 58, 3) := by decide +kernel
theorem dL_streets_6 : decode cL_streets 6 = .ok (.istore 4, 2) := by decide +kernel
theorem dL_streets_8 : decode cL_streets 8 = .ok (.iload_n 1, 1) := by decide +kernel
theorem dL_streets_9 : decode cL_streets 9 = .ok (.ifCond .ne 104, 3) := by decide +kernel
theorem dL_streets_12 : decode cL_streets 12 = .ok (.iconst 1, 1) := by decide +kernel
theorem dL_streets_13 : decode cL_streets 13 = .ok (.iload_n 2, 1) := by decide +kernel
theorem dL_streets_14 : decode cL_streets 14 = .ok (.iconst 3, 1) := by decide +kernel
theorem dL_streets_15 : decode cL_streets 15 = .ok (.ishr, 1) := by decide +kernel
theorem dL_streets_16 : decode cL_streets 16 = .ok (.iload_n 2, 1) := by decide +kernel
theorem dL_streets_17 : decode cL_streets 17 = .ok (.bipush 13, 2) := by decide +kernel
theorem dL_streets_19 : decode cL_streets 19 = .ok (.ishr, 1) := by decide +kernel
theorem dL_streets_20 : decode cL_streets 20 = .ok (.iconst 3, 1) := by decide +kernel
theorem dL_streets_21 : decode cL_streets 21 = .ok (.invokestatic 58, 3) := by decide +kernel
theorem dL_streets_24 : decode cL_streets 24 = .ok (.ifCond .ne 9, 3) := by decide +kernel
theorem dL_streets_27 : decode cL_streets 27 = .ok (.sipush 10000, 3) := by decide +kernel
theorem dL_streets_30 : decode cL_streets 30 = .ok (.goto 5, 3) := by decide +kernel
theorem dL_streets_33 : decode cL_streets 33 = .ok (.bipush 9, 2) := by decide +kernel
theorem dL_streets_35 : decode cL_streets 35 = .ok (.invokestatic 58, 3) := by decide +kernel
theorem dL_streets_38 : decode cL_streets 38 = .ok (.iadd, 1) := by decide +kernel
theorem dL_streets_39 : decode cL_streets 39 = .ok (.istore 5, 2) := by decide +kernel
theorem dL_streets_41 : decode cL_streets 41 = .ok (.aload_n 3, 1) := by decide +kernel
theorem dL_streets_42 : decode cL_streets 42 = .ok (.bipush 6, 2) := by decide +kernel
theorem dL_streets_44 : decode cL_streets 44 = .ok (.iload 4, 2) := by decide +kernel
theorem dL_streets_46 : decode cL_streets 46 = .ok (.imul, 1) := by decide +kernel
theorem dL_streets_47 : decode cL_streets 47 = .ok (.iaload, 1) := by decide +kernel
theorem dL_streets_48 : decode cL_streets 48 = .ok (.iload 5, 2) := by decide +kernel
theorem dL_streets_50 : decode cL_streets 50 = .ok (.iadd, 1) := by decide +kernel
theorem dL_streets_51 : decode cL_streets 51 = .ok (.ldc 86, 2) := by decide +kernel
theorem dL_streets_53 : decode cL_streets 53 = .ok (.if_icmp .gt 7, 3) := by decide +kernel
theorem dL_streets_56 : decode cL_streets 56 = .ok (.iconst 1, 1) := by decide +kernel
theorem dL_streets_57 : decode cL_streets 57 = .ok (.goto 4, 3) := by decide +kernel
theorem dL_streets_60 : decode cL_streets 60 = .ok (.iconst 0, 1) := by decide +kernel
theorem dL_streets_61 : decode cL_streets 61 = .ok (.istore 6, 2) := by decide +kernel
theorem dL_streets_63 : decode cL_streets 63 = .ok (.aload_n 3, 1) := by decide +kernel
theorem dL_streets_64 : decode cL_streets 64 = .ok (.bipush 6, 2) := by decide +kernel
theorem dL_streets_66 : decode cL_streets 66 = .ok (.iload 4, 2) := by decide +kernel
theorem dL_streets_68 : decode cL_streets 68 = .ok (.imul, 1) := by decide +kernel
theorem dL_streets_69 : decode cL_streets 69 = .ok (.dup2, 1) := by decide +kernel
theorem dL_streets_70 : decode cL_streets 70 = .ok (.iaload, 1) := by decide +kernel
theorem dL_streets_71 : decode cL_streets 71 = .ok (.iload 6, 2) := by decide +kernel
theorem dL_streets_73 : decode cL_streets 73 = .ok (.ifCond .eq 8, 3) := by decide +kernel
theorem dL_streets_76 : decode cL_streets 76 = .ok (.iload 5, 2) := by decide +kernel
theorem dL_streets_78 : decode cL_streets 78 = .ok (.goto 4, 3) := by decide +kernel
theorem dL_streets_81 : decode cL_streets 81 = .ok (.iconst 0, 1) := by decide +kernel
theorem dL_streets_82 : decode cL_streets 82 = .ok (.iadd, 1) := by decide +kernel
theorem dL_streets_83 : decode cL_streets 83 = .ok (.iastore, 1) := by decide +kernel
theorem dL_streets_84 : decode cL_streets 84 = .ok (.iload 6, 2) := by decide +kernel
theorem dL_streets_86 : decode cL_streets 86 = .ok (.ifCond .eq 21, 3) := by decide +kernel
theorem dL_streets_89 : decode cL_streets 89 = .ok (.aload_n 0, 1) := by decide +kernel
theorem dL_streets_90 : decode cL_streets 90 = .ok (.iload 4, 2) := by decide +kernel
theorem dL_streets_92 : decode cL_streets 92 = .ok (.iload 5, 2) := by decide +kernel
theorem dL_streets_94 : decode cL_streets 94 = .ok (.invokevirtual 87, 3) := by decide +kernel
theorem dL_streets_97 : decode cL_streets 97 = .ok (.aload_n 3, 1) := by decide +kernel
theorem dL_streets_98 : decode cL_streets 98 = .ok (.bipush 6, 2) := by decide +kernel
theorem dL_streets_100 : decode cL_streets 100 = .ok (.iload 4, 2) := by decide +kernel
theorem dL_streets_102 : decode cL_streets 102 = .ok (.imul, 1) := by decide +kernel
theorem dL_streets_103 : decode cL_streets 103 = .ok (.iaload, 1) := by decide +kernel
theorem dL_streets_104 : decode cL_streets 104 = .ok (.if_icmp .ne 7, 3) := by decide +kernel
theorem dL_streets_107 : decode cL_streets 107 = .ok (.iconst 1, 1) := by decide +kernel
theorem dL_streets_108 : decode cL_streets 108 = .ok (.goto 4, 3) := by decide +kernel
theorem dL_streets_111 : decode cL_streets 111 = .ok (.iconst 0, 1) := by decide +kernel
theorem dL_streets_112 : decode cL_streets 112 = .ok (.ireturn, 1) := by decide +kernel
theorem dL_streets_113 : decode cL_streets 113 = .ok (.iload_n 1, 1) := by decide +kernel
theorem dL_streets_114 : decode cL_streets 114 = .ok (.iconst 1, 1) := by decide +kernel
theorem dL_streets_115 : decode cL_streets 115 = .ok (.if_icmp .ne 107, 3) := by decide +kernel
theorem dL_streets_118 : decode cL_streets 118 = .ok (.aload_n 3, 1) := by decide +kernel
theorem dL_streets_119 : decode cL_streets 119 = .ok (.bipush 6, 2) := by decide +kernel
theorem dL_streets_121 : decode cL_streets 121 = .ok (.iload 4, 2) := by decide +kernel
theorem dL_streets_123 : decode cL_streets 123 = .ok (.imul, 1) := by decide +kernel
theorem dL_streets_124 : decode cL_streets 124 = .ok (.iconst 1, 1) := by decide +kernel
theorem dL_streets_125 : decode cL_streets 125 = .ok (.iadd, 1) := by decide +kernel
theorem dL_streets_126 : decode cL_streets 126 = .ok (.iaload, 1) := by decide +kernel
theorem dL_streets_127 : decode cL_streets 127 = .ok (.istore 5, 2) := by decide +kernel
theorem dL_streets_129 : decode cL_streets 129 = .ok (.aload_n 3, 1) := by decide +kernel
theorem dL_streets_130 : decode cL_streets 130 = .ok (.bipush 6, 2) := by decide +kernel
theorem dL_streets_132 : decode cL_streets 132 = .ok (.iload 4, 2) := by decide +kernel
theorem dL_streets_134 : decode cL_streets 134 = .ok (.imul, 1) := by decide +kernel
theorem dL_streets_135 : decode cL_streets 135 = .ok (.iconst 1, 1) := by decide +kernel
theorem dL_streets_136 : decode cL_streets 136 = .ok (.iadd, 1) := by decide +kernel
theorem dL_streets_137 : decode cL_streets 137 = .ok (.iload_n 2, 1) := by decide +kernel
theorem dL_streets_138 : decode cL_streets 138 = .ok (.iconst 3, 1) := by decide +kernel
theorem dL_streets_139 : decode cL_streets 139 = .ok (.ishr, 1) := by decide +kernel
theorem dL_streets_140 : decode cL_streets 140 = .ok (.iload_n 2, 1) := by decide +kernel
theorem dL_streets_141 : decode cL_streets 141 = .ok (.bipush 13, 2) := by decide +kernel
theorem dL_streets_143 : decode cL_streets 143 = .ok (.ishr, 1) := by decide +kernel
theorem dL_streets_144 : decode cL_streets 144 = .ok (.iconst 3, 1) := by decide +kernel
theorem dL_streets_145 : decode cL_streets 145 = .ok (.invokestatic 58, 3) := by decide +kernel
theorem dL_streets_148 : decode cL_streets 148 = .ok (.ifCond .ne 8, 3) := by decide +kernel
theorem dL_streets_151 : decode cL_streets 151 = .ok (.bipush 51, 2) := by decide +kernel
theorem dL_streets_153 : decode cL_streets 153 = .ok (.goto 4, 3) := by decide +kernel
theorem dL_streets_156 : decode cL_streets 156 = .ok (.iconst 5, 1) := by decide +kernel
theorem dL_streets_157 : decode cL_streets 157 = .ok (.invokestatic 58, 3) := by decide +kernel
theorem dL_streets_160 : decode cL_streets 160 = .ok (.iastore, 1) := by decide +kernel
theorem dL_streets_161 : decode cL_streets 161 = .ok (.aload_n 3, 1) := by decide +kernel
theorem dL_streets_162 : decode cL_streets 162 = .ok (.bipush 6, 2) := by decide +kernel
theorem dL_streets_164 : decode cL_streets 164 = .ok (.iload 4, 2) := by decide +kernel
theorem dL_streets_166 : decode cL_streets 166 = .ok (.imul, 1) := by decide +kernel
theorem dL_streets_167 : decode cL_streets 167 = .ok (.iconst 2, 1) := by decide +kernel
theorem dL_streets_168 : decode cL_streets 168 = .ok (.iadd, 1) := by decide +kernel
theorem dL_streets_169 : decode cL_streets 169 = .ok (.iload_n 2, 1) := by decide +kernel
theorem dL_streets_170 : decode cL_streets 170 = .ok (.bipush 8, 2) := by decide +kernel
theorem dL_streets_172 : decode cL_streets 172 = .ok (.ishr, 1) := by decide +kernel
theorem dL_streets_173 : decode cL_streets 173 = .ok (.iconst 2, 1) := by decide +kernel
theorem dL_streets_174 : decode cL_streets 174 = .ok (.invokestatic 58, 3) := by decide +kernel
theorem dL_streets_177 : decode cL_streets 177 = .ok (.iastore, 1) := by decide +kernel
theorem dL_streets_178 : decode cL_streets 178 = .ok (.aload_n 0, 1) := by decide +kernel
theorem dL_streets_179 : decode cL_streets 179 = .ok (.iload 4, 2) := by decide +kernel
theorem dL_streets_181 : decode cL_streets 181 = .ok (.aload_n 3, 1) := by decide +kernel
theorem dL_streets_182 : decode cL_streets 182 = .ok (.bipush 6, 2) := by decide +kernel
theorem dL_streets_184 : decode cL_streets 184 = .ok (.iload 4, 2) := by decide +kernel
theorem dL_streets_186 : decode cL_streets 186 = .ok (.imul, 1) := by decide +kernel
theorem dL_streets_187 : decode cL_streets 187 = .ok (.iconst 1, 1) := by decide +kernel
theorem dL_streets_188 : decode cL_streets 188 = .ok (.iadd, 1) := by decide +kernel
theorem dL_streets_189 : decode cL_streets 189 = .ok (.iaload, 1) := by decide +kernel
theorem dL_streets_190 : decode cL_streets 190 = .ok (.aload_n 3, 1) := by decide +kernel
theorem dL_streets_191 : decode cL_streets 191 = .ok (.bipush 6, 2) := by decide +kernel
theorem dL_streets_193 : decode cL_streets 193 = .ok (.iload 4, 2) := by decide +kernel
theorem dL_streets_195 : decode cL_streets 195 = .ok (.imul, 1) := by decide +kernel
theorem dL_streets_196 : decode cL_streets 196 = .ok (.iconst 2, 1) := by decide +kernel
theorem dL_streets_197 : decode cL_streets 197 = .ok (.iadd, 1) := by decide +kernel
theorem dL_streets_198 : decode cL_streets 198 = .ok (.iaload, 1) := by decide +kernel
theorem dL_streets_199 : decode cL_streets 199 = .ok (.iconst 1, 1) := by decide +kernel
theorem dL_streets_200 : decode cL_streets 200 = .ok (.if_icmp .ne 7, 3) := by decide +kernel
theorem dL_streets_203 : decode cL_streets 203 = .ok (.iconst 1, 1) := by decide +kernel
theorem dL_streets_204 : decode cL_streets 204 = .ok (.goto 4, 3) := by decide +kernel
theorem dL_streets_207 : decode cL_streets 207 = .ok (.iconst 0, 1) := by decide +kernel
theorem dL_streets_208 : decode cL_streets 208 = .ok (.invokevirtual 90, 3) := by decide +kernel
theorem dL_streets_211 : decode cL_streets 211 = .ok (.iload 5, 2) := by decide +kernel
theorem dL_streets_213 : decode cL_streets 213 = .ok (.if_icmp .ne 7, 3) := by decide +kernel
theorem dL_streets_216 : decode cL_streets 216 = .ok (.iconst 1, 1) := by decide +kernel
theorem dL_streets_217 : decode cL_streets 217 = .ok (.goto 4, 3) := by decide +kernel
theorem dL_streets_220 : decode cL_streets 220 = .ok (.iconst 0, 1) := by decide +kernel
theorem dL_streets_221 : decode cL_streets 221 = .ok (.ireturn, 1) := by decide +kernel
theorem dL_streets_222 : decode cL_streets 222 = .ok (.iload_n 2, 1) := by decide +kernel
theorem dL_streets_223 : decode cL_streets 223 = .ok (.iconst 3, 1) := by decide +kernel
theorem dL_streets_224 : decode cL_streets 224 = .ok (.ishr, 1) := by decide +kernel
theorem dL_streets_225 : decode cL_streets 225 = .ok (.iconst 3, 1) := by decide +kernel
theorem dL_streets_226 : decode cL_streets 226 = .ok (.invokestatic 58, 3) := by decide +kernel
theorem dL_streets_229 : decode cL_streets 229 = .ok (.istore 5, 2) := by decide +kernel
theorem dL_streets_231 : decode cL_streets 231 = .ok (.aload_n 3, 1) := by decide +kernel
theorem dL_streets_232 : decode cL_streets 232 = .ok (.bipush 6, 2) := by decide +kernel
theorem dL_streets_234 : decode cL_streets 234 = .ok (.iload 4, 2) := by decide +kernel
theorem dL_streets_236 : decode cL_streets 236 = .ok (.imul, 1) := by decide +kernel
theorem dL_streets_237 : decode cL_streets 237 = .ok (.iconst 3, 1) := by decide +kernel
theorem dL_streets_238 : decode cL_streets 238 = .ok (.iadd, 1) := by decide +kernel
theorem dL_streets_239 : decode cL_streets 239 = .ok (.iload 5, 2) := by decide +kernel
theorem dL_streets_241 : decode cL_streets 241 = .ok (.iadd, 1) := by decide +kernel
theorem dL_streets_242 : decode cL_streets 242 = .ok (.iconst 1, 1) := by decide +kernel
theorem dL_streets_243 : decode cL_streets 243 = .ok (.iload_n 2, 1) := by decide +kernel
theorem dL_streets_244 : decode cL_streets 244 = .ok (.iconst 5, 1) := by decide +kernel
theorem dL_streets_245 : decode cL_streets 245 = .ok (.ishr, 1) := by decide +kernel
theorem dL_streets_246 : decode cL_streets 246 = .ok (.iload_n 2, 1) := by decide +kernel
theorem dL_streets_247 : decode cL_streets 247 = .ok (.bipush 13, 2) := by decide +kernel
theorem dL_streets_249 : decode cL_streets 249 = .ok (.ishr, 1) := by decide +kernel
theorem dL_streets_250 : decode cL_streets 250 = .ok (.iconst 2, 1) := by decide +kernel
theorem dL_streets_251 : decode cL_streets 251 = .ok (.invokestatic 58, 3) := by decide +kernel
theorem dL_streets_254 : decode cL_streets 254 = .ok (.ifCond .ne 8, 3) := by decide +kernel
theorem dL_streets_257 : decode cL_streets 257 = .ok (.bipush 30, 2) := by decide +kernel
theorem dL_streets_259 : decode cL_streets 259 = .ok (.goto 4, 3) := by decide +kernel
theorem dL_streets_262 : decode cL_streets 262 = .ok (.iconst 4, 1) := by decide +kernel
theorem dL_streets_263 : decode cL_streets 263 = .ok (.invokestatic 58, 3) := by decide +kernel
theorem dL_streets_266 : decode cL_streets 266 = .ok (.iadd, 1) := by decide +kernel
theorem dL_streets_267 : decode cL_streets 267 = .ok (.iastore, 1) := by decide +kernel
theorem dL_streets_268 : decode cL_streets 268 = .ok (.aload_n 0, 1) := by decide +kernel
theorem dL_streets_269 : decode cL_streets 269 = .ok (.iload 4, 2) := by decide +kernel
theorem dL_streets_271 : decode cL_streets 271 = .ok (.iload 5, 2) := by decide +kernel
theorem dL_streets_273 : decode cL_streets 273 = .ok (.aload_n 3, 1) := by decide +kernel
theorem dL_streets_274 : decode cL_streets 274 = .ok (.bipush 6, 2) := by decide +kernel
theorem dL_streets_276 : decode cL_streets 276 = .ok (.iload 4, 2) := by decide +kernel
theorem dL_streets_278 : decode cL_streets 278 = .ok (.imul, 1) := by decide +kernel
theorem dL_streets_279 : decode cL_streets 279 = .ok (.iconst 3, 1) := by decide +kernel
theorem dL_streets_280 : decode cL_streets 280 = .ok (.iadd, 1) := by decide +kernel
theorem dL_streets_281 : decode cL_streets 281 = .ok (.iload 5, 2) := by decide +kernel
theorem dL_streets_283 : decode cL_streets 283 = .ok (.iadd, 1) := by decide +kernel
theorem dL_streets_284 : decode cL_streets 284 = .ok (.iaload, 1) := by decide +kernel
theorem dL_streets_285 : decode cL_streets 285 = .ok (.invokevirtual 94, 3) := by decide +kernel
theorem dL_streets_288 : decode cL_streets 288 = .ok (.iload 4, 2) := by decide +kernel
theorem dL_streets_290 : decode cL_streets 290 = .ok (.aload_n 3, 1) := by decide +kernel
theorem dL_streets_291 : decode cL_streets 291 = .ok (.invokestatic 38, 3) := by decide +kernel
theorem dL_streets_294 : decode cL_streets 294 = .ok (.if_icmp .ne 7, 3) := by decide +kernel
theorem dL_streets_297 : decode cL_streets 297 = .ok (.iconst 1, 1) := by decide +kernel
theorem dL_streets_298 : decode cL_streets 298 = .ok (.goto 4, 3) := by decide +kernel
theorem dL_streets_301 : decode cL_streets 301 = .ok (.iconst 0, 1) := by decide +kernel
theorem dL_streets_302 : decode cL_streets 302 = .ok (.ireturn, 1) := by decide +kernel
theorem dL_minutes_0 : decode cL_minutes 0 = .ok (.iconst 0, 1) := by decide +kernel
theorem dL_minutes_1 : decode cL_minutes 1 = .ok (.istore 7, 2) := by decide +kernel
theorem dL_minutes_3 : decode cL_minutes 3 = .ok (.iconst 0, 1) := by decide +kernel
theorem dL_minutes_4 : decode cL_minutes 4 = .ok (.istore 8, 2) := by decide +kernel
theorem dL_minutes_6 : decode cL_minutes 6 = .ok (.iload 8, 2) := by decide +kernel
theorem dL_minutes_8 : decode cL_minutes 8 = .ok (.iload_n 0, 1) := by decide +kernel
theorem dL_minutes_9 : decode cL_minutes 9 = .ok (.if_icmp .ge 129, 3) := by decide +kernel
theorem dL_minutes_12 : decode cL_minutes 12 = .ok (.iconst 0, 1) := by decide +kernel
theorem dL_minutes_13 : decode cL_minutes 13 = .ok (.istore 9, 2) := by decide +kernel
theorem dL_minutes_15 : decode cL_minutes 15 = .ok (.iload 9, 2) := by decide +kernel
theorem dL_minutes_17 : decode cL_minutes 17 = .ok (.aload 6, 2) := by decide +kernel
theorem dL_minutes_19 : decode cL_minutes 19 = .ok (.iconst 2, 1) := by decide +kernel
theorem dL_minutes_20 : decode cL_minutes 20 = .ok (.iaload, 1) := by decide +kernel
theorem dL_minutes_21 : decode cL_minutes 21 = .ok (.if_icmp .ge 28, 3) := by decide +kernel
theorem dL_minutes_24 : decode cL_minutes 24 = .ok (.aload_n 3, 1) := by decide +kernel
theorem dL_minutes_25 : decode cL_minutes 25 = .ok (.bipush 6, 2) := by decide +kernel
theorem dL_minutes_27 : decode cL_minutes 27 = .ok (.iload 9, 2) := by decide +kernel
theorem dL_minutes_29 : decode cL_minutes 29 = .ok (.imul, 1) := by decide +kernel
theorem dL_minutes_30 : decode cL_minutes 30 = .ok (.iconst 2, 1) := by decide +kernel
theorem dL_minutes_31 : decode cL_minutes 31 = .ok (.iadd, 1) := by decide +kernel
theorem dL_minutes_32 : decode cL_minutes 32 = .ok (.iaload, 1) := by decide +kernel
theorem dL_minutes_33 : decode cL_minutes 33 = .ok (.ifCond .ne 10, 3) := by decide +kernel
theorem dL_minutes_36 : decode cL_minutes 36 = .ok (.iload 9, 2) := by decide +kernel
theorem dL_minutes_38 : decode cL_minutes 38 = .ok (.aload_n 2, 1) := by decide +kernel
theorem dL_minutes_39 : decode cL_minutes 39 = .ok (.aload_n 3, 1) := by decide +kernel
theorem dL_minutes_40 : decode cL_minutes 40 = .ok (.invokestatic 98, 3) := by decide +kernel
theorem dL_minutes_43 : decode cL_minutes 43 = .ok (.iinc 9 1, 3) := by decide +kernel
theorem dL_minutes_46 : decode cL_minutes 46 = .ok (.goto (-31), 3) := by decide +kernel
theorem dL_minutes_49 : decode cL_minutes 49 = .ok (.iconst 0, 1) := by decide +kernel
theorem dL_minutes_50 : decode cL_minutes 50 = .ok (.istore 9, 2) := by decide +kernel
theorem dL_minutes_52 : decode cL_minutes 52 = .ok (.iload 9, 2) := by decide +kernel
theorem dL_minutes_54 : decode cL_minutes 54 = .ok (.aload 6, 2) := by decide +kernel
theorem dL_minutes_56 : decode cL_minutes 56 = .ok (.iconst 2, 1) := by decide +kernel
theorem dL_minutes_57 : decode cL_minutes 57 = .ok (.iaload, 1) := by decide +kernel
theorem dL_minutes_58 : decode cL_minutes 58 = .ok (.if_icmp .ge 74, 3) := by decide +kernel
theorem dL_minutes_61 : decode cL_minutes 61 = .ok (.aload_n 3, 1) := by decide +kernel
theorem dL_minutes_62 : decode cL_minutes 62 = .ok (.bipush 6, 2) := by decide +kernel
theorem dL_minutes_64 : decode cL_minutes 64 = .ok (.iload 9, 2) := by decide +kernel
theorem dL_minutes_66 : decode cL_minutes 66 = .ok (.imul, 1) := by decide +kernel
theorem dL_minutes_67 : decode cL_minutes 67 = .ok (.iconst 2, 1) := by decide +kernel
theorem dL_minutes_68 : decode cL_minutes 68 = .ok (.iadd, 1) := by decide +kernel
theorem dL_minutes_69 : decode cL_minutes 69 = .ok (.iaload, 1) := by decide +kernel
theorem dL_minutes_70 : decode cL_minutes 70 = .ok (.iconst 1, 1) := by decide +kernel
theorem dL_minutes_71 : decode cL_minutes 71 = .ok (.if_icmp .eq 16, 3) := by decide +kernel
theorem dL_minutes_74 : decode cL_minutes 74 = .ok (.aload_n 3, 1) := by decide +kernel
theorem dL_minutes_75 : decode cL_minutes 75 = .ok (.bipush 6, 2) := by decide +kernel
theorem dL_minutes_77 : decode cL_minutes 77 = .ok (.iload 9, 2) := by decide +kernel
theorem dL_minutes_79 : decode cL_minutes 79 = .ok (.imul, 1) := by decide +kernel
theorem dL_minutes_80 : decode cL_minutes 80 = .ok (.iconst 2, 1) := by decide +kernel
theorem dL_minutes_81 : decode cL_minutes 81 = .ok (.iadd, 1) := by decide +kernel
theorem dL_minutes_82 : decode cL_minutes 82 = .ok (.iaload, 1) := by decide +kernel
theorem dL_minutes_83 : decode cL_minutes 83 = .ok (.iconst 2, 1) := by decide +kernel
theorem dL_minutes_84 : decode cL_minutes 84 = .ok (.if_icmp .ne 7, 3) := by decide +kernel
theorem dL_minutes_87 : decode cL_minutes 87 = .ok (.iconst 1, 1) := by decide +kernel
theorem dL_minutes_88 : decode cL_minutes 88 = .ok (.goto 4, 3) := by decide +kernel
theorem dL_minutes_91 : decode cL_minutes 91 = .ok (.iconst 0, 1) := by decide +kernel
theorem dL_minutes_92 : decode cL_minutes 92 = .ok (.istore 10, 2) := by decide +kernel
theorem dL_minutes_94 : decode cL_minutes 94 = .ok (.iload 7, 2) := by decide +kernel
theorem dL_minutes_96 : decode cL_minutes 96 = .ok (.iload 10, 2) := by decide +kernel
theorem dL_minutes_98 : decode cL_minutes 98 = .ok (.ifCond .eq 24, 3) := by decide +kernel
theorem dL_minutes_101 : decode cL_minutes 101 = .ok (.iload 9, 2) := by decide +kernel
theorem dL_minutes_103 : decode cL_minutes 103 = .ok (.aload_n 1, 1) := by decide +kernel
theorem dL_minutes_104 : decode cL_minutes 104 = .ok (.aload_n 2, 1) := by decide +kernel
theorem dL_minutes_105 : decode cL_minutes 105 = .ok (.aload_n 3, 1) := by decide +kernel
theorem dL_minutes_106 : decode cL_minutes 106 = .ok (.aload 4, 2) := by decide +kernel
theorem dL_minutes_108 : decode cL_minutes 108 = .ok (.aload 5, 2) := by decide +kernel
theorem dL_minutes_110 : decode cL_minutes 110 = .ok (.aload 6, 2) := by decide +kernel
theorem dL_minutes_112 : decode cL_minutes 112 = .ok (.invokestatic 102, 3) := by decide +kernel
theorem dL_minutes_115 : decode cL_minutes 115 = .ok (.ifCond .eq 7, 3) := by decide +kernel
theorem dL_minutes_118 : decode cL_minutes 118 = .ok (.iconst 1, 1) := by decide +kernel
theorem dL_minutes_119 : decode cL_minutes 119 = .ok (.goto 4, 3) := by decide +kernel
theorem dL_minutes_122 : decode cL_minutes 122 = .ok (.iconst 0, 1) := by decide +kernel
theorem dL_minutes_123 : decode cL_minutes 123 = .ok (.iadd, 1) := by decide +kernel
theorem dL_minutes_124 : decode cL_minutes 124 = .ok (.istore 7, 2) := by decide +kernel
theorem dL_minutes_126 : decode cL_minutes 126 = .ok (.iinc 9 1, 3) := by decide +kernel
theorem dL_minutes_129 : decode cL_minutes 129 = .ok (.goto (-77), 3) := by decide +kernel
theorem dL_minutes_132 : decode cL_minutes 132 = .ok (.iinc 8 1, 3) := by decide +kernel
theorem dL_minutes_135 : decode cL_minutes 135 = .ok (.goto (-129), 3) := by decide +kernel
theorem dL_minutes_138 : decode cL_minutes 138 = .ok (.aload 6, 2) := by decide +kernel
theorem dL_minutes_140 : decode cL_minutes 140 = .ok (.iconst 1, 1) := by decide +kernel
theorem dL_minutes_141 : decode cL_minutes 141 = .ok (.dup2, 1) := by decide +kernel
theorem dL_minutes_142 : decode cL_minutes 142 = .ok (.iaload, 1) := by decide +kernel
theorem dL_minutes_143 : decode cL_minutes 143 = .ok (.iload_n 0, 1) := by decide +kernel
theorem dL_minutes_144 : decode cL_minutes 144 = .ok (.iadd, 1) := by decide +kernel
theorem dL_minutes_145 : decode cL_minutes 145 = .ok (.iastore, 1) := by decide +kernel
theorem dL_minutes_146 : decode cL_minutes 146 = .ok (.iload 7, 2) := by decide +kernel
theorem dL_minutes_148 : decode cL_minutes 148 = .ok (.ireturn, 1) := by decide +kernel
theorem dL_night_0 : decode cL_night 0 = .ok (.iconst 0, 1) := by decide +kernel
theorem dL_night_1 : decode cL_night 1 = .ok (.istore_n 3, 1) := by decide +kernel
theorem dL_night_2 : decode cL_night 2 = .ok (.iload_n 3, 1) := by decide +kernel
theorem dL_night_3 : decode cL_night 3 = .ok (.aload_n 2, 1) := by decide +kernel
theorem dL_night_4 : decode cL_night 4 = .ok (.iconst 2, 1) := by decide +kernel
theorem dL_night_5 : decode cL_night 5 = .ok (.iaload, 1) := by decide +kernel
theorem dL_night_6 : decode cL_night 6 = .ok (.if_icmp .ge 24, 3) := by decide +kernel
theorem dL_night_9 : decode cL_night 9 = .ok (.aload_n 0, 1) := by decide +kernel
theorem dL_night_10 : decode cL_night 10 = .ok (.bipush 6, 2) := by decide +kernel
theorem dL_night_12 : decode cL_night 12 = .ok (.iload_n 3, 1) := by decide +kernel
theorem dL_night_13 : decode cL_night 13 = .ok (.imul, 1) := by decide +kernel
theorem dL_night_14 : decode cL_night 14 = .ok (.iconst 2, 1) := by decide +kernel
theorem dL_night_15 : decode cL_night 15 = .ok (.iadd, 1) := by decide +kernel
theorem dL_night_16 : decode cL_night 16 = .ok (.iaload, 1) := by decide +kernel
theorem dL_night_17 : decode cL_night 17 = .ok (.iconst 3, 1) := by decide +kernel
theorem dL_night_18 : decode cL_night 18 = .ok (.if_icmp .ge 6, 3) := by decide +kernel
theorem dL_night_21 : decode cL_night 21 = .ok (.bipush (-3), 2) := by decide +kernel
theorem dL_night_23 : decode cL_night 23 = .ok (.ireturn, 1) := by decide +kernel
theorem dL_night_24 : decode cL_night 24 = .ok (.iinc 3 1, 3) := by decide +kernel
theorem dL_night_27 : decode cL_night 27 = .ok (.goto (-25), 3) := by decide +kernel
theorem dL_night_30 : decode cL_night 30 = .ok (.iconst 0, 1) := by decide +kernel
theorem dL_night_31 : decode cL_night 31 = .ok (.istore_n 3, 1) := by decide +kernel
theorem dL_night_32 : decode cL_night 32 = .ok (.aload_n 2, 1) := by decide +kernel
theorem dL_night_33 : decode cL_night 33 = .ok (.iconst 0, 1) := by decide +kernel
theorem dL_night_34 : decode cL_night 34 = .ok (.dup2, 1) := by decide +kernel
theorem dL_night_35 : decode cL_night 35 = .ok (.iaload, 1) := by decide +kernel
theorem dL_night_36 : decode cL_night 36 = .ok (.iconst 1, 1) := by decide +kernel
theorem dL_night_37 : decode cL_night 37 = .ok (.iadd, 1) := by decide +kernel
theorem dL_night_38 : decode cL_night 38 = .ok (.iastore, 1) := by decide +kernel
theorem dL_night_39 : decode cL_night 39 = .ok (.aload_n 2, 1) := by decide +kernel
theorem dL_night_40 : decode cL_night 40 = .ok (.iconst 1, 1) := by decide +kernel
theorem dL_night_41 : decode cL_night 41 = .ok (.iconst 0, 1) := by decide +kernel
theorem dL_night_42 : decode cL_night 42 = .ok (.iastore, 1) := by decide +kernel
theorem dL_night_43 : decode cL_night 43 = .ok (.iconst 0, 1) := by decide +kernel
theorem dL_night_44 : decode cL_night 44 = .ok (.istore 4, 2) := by decide +kernel
theorem dL_night_46 : decode cL_night 46 = .ok (.iload 4, 2) := by decide +kernel
theorem dL_night_48 : decode cL_night 48 = .ok (.aload_n 2, 1) := by decide +kernel
theorem dL_night_49 : decode cL_night 49 = .ok (.iconst 3, 1) := by decide +kernel
theorem dL_night_50 : decode cL_night 50 = .ok (.iaload, 1) := by decide +kernel
theorem dL_night_51 : decode cL_night 51 = .ok (.if_icmp .ge 27, 3) := by decide +kernel
theorem dL_night_54 : decode cL_night 54 = .ok (.iload_n 3, 1) := by decide +kernel
theorem dL_night_55 : decode cL_night 55 = .ok (.aload_n 1, 1) := by decide +kernel
theorem dL_night_56 : decode cL_night 56 = .ok (.iload 4, 2) := by decide +kernel
theorem dL_night_58 : decode cL_night 58 = .ok (.iaload, 1) := by decide +kernel
theorem dL_night_59 : decode cL_night 59 = .ok (.aload_n 2, 1) := by decide +kernel
theorem dL_night_60 : decode cL_night 60 = .ok (.iconst 0, 1) := by decide +kernel
theorem dL_night_61 : decode cL_night 61 = .ok (.iaload, 1) := by decide +kernel
theorem dL_night_62 : decode cL_night 62 = .ok (.if_icmp .ne 7, 3) := by decide +kernel
theorem dL_night_65 : decode cL_night 65 = .ok (.iconst 1, 1) := by decide +kernel
theorem dL_night_66 : decode cL_night 66 = .ok (.goto 4, 3) := by decide +kernel
theorem dL_night_69 : decode cL_night 69 = .ok (.iconst 0, 1) := by decide +kernel
theorem dL_night_70 : decode cL_night 70 = .ok (.iadd, 1) := by decide +kernel
theorem dL_night_71 : decode cL_night 71 = .ok (.istore_n 3, 1) := by decide +kernel
theorem dL_night_72 : decode cL_night 72 = .ok (.iinc 4 1, 3) := by decide +kernel
theorem dL_night_75 : decode cL_night 75 = .ok (.goto (-29), 3) := by decide +kernel
theorem dL_night_78 : decode cL_night 78 = .ok (.iload_n 3, 1) := by decide +kernel
theorem dL_night_79 : decode cL_night 79 = .ok (.ireturn, 1) := by decide +kernel
theorem dL_law_0 : decode cL_law 0 = .ok (.new 11, 3) := by decide +kernel
theorem dL_law_3 : decode cL_law 3 = .ok (.dup, 1) := by decide +kernel
theorem dL_law_4 : decode cL_law 4 = .ok (.invokespecial 106, 3) := by decide +kernel
theorem dL_law_7 : decode cL_law 7 = .ok (.astore_n 1, 1) := by decide +kernel
theorem dL_law_8 : decode cL_law 8 = .ok (.iconst 4, 1) := by decide +kernel
theorem dL_law_9 : decode cL_law 9 = .ok (.newarray .int, 2) := by decide +kernel
theorem dL_law_11 : decode cL_law 11 = .ok (.astore_n 2, 1) := by decide +kernel
theorem dL_law_12 : decode cL_law 12 = .ok (.bipush 48, 2) := by decide +kernel
theorem dL_law_14 : decode cL_law 14 = .ok (.newarray .int, 2) := by decide +kernel
theorem dL_law_16 : decode cL_law 16 = .ok (.astore_n 3, 1) := by decide +kernel
theorem dL_law_17 : decode cL_law 17 = .ok (.bipush 12, 2) := by decide +kernel
theorem dL_law_19 : decode cL_law 19 = .ok (.newarray .int, 2) := by decide +kernel
theorem dL_law_21 : decode cL_law 21 = .ok (.astore 4, 2) := by decide +kernel
theorem dL_law_23 : decode cL_law 23 = .ok (.bipush 48, 2) := by decide +kernel
theorem dL_law_25 : decode cL_law 25 = .ok (.newarray .int, 2) := by decide +kernel
theorem dL_law_27 : decode cL_law 27 = .ok (.astore 5, 2) := by decide +kernel
theorem dL_law_29 : decode cL_law 29 = .ok (.bipush 40, 2) := by decide +kernel
theorem dL_law_31 : decode cL_law 31 = .ok (.newarray .int, 2) := by decide +kernel
theorem dL_law_33 : decode cL_law 33 = .ok (.astore 6, 2) := by decide +kernel
theorem dL_law_35 : decode cL_law 35 = .ok (.bipush 40, 2) := by decide +kernel
theorem dL_law_37 : decode cL_law 37 = .ok (.newarray .int, 2) := by decide +kernel
theorem dL_law_39 : decode cL_law 39 = .ok (.astore 7, 2) := by decide +kernel
theorem dL_law_41 : decode cL_law 41 = .ok (.iconst 0, 1) := by decide +kernel
theorem dL_law_42 : decode cL_law 42 = .ok (.istore 8, 2) := by decide +kernel
theorem dL_law_44 : decode cL_law 44 = .ok (.iload 8, 2) := by decide +kernel
theorem dL_law_46 : decode cL_law 46 = .ok (.bipush 8, 2) := by decide +kernel
theorem dL_law_48 : decode cL_law 48 = .ok (.if_icmp .ge 52, 3) := by decide +kernel
theorem dL_law_51 : decode cL_law 51 = .ok (.aload_n 3, 1) := by decide +kernel
theorem dL_law_52 : decode cL_law 52 = .ok (.bipush 6, 2) := by decide +kernel
theorem dL_law_54 : decode cL_law 54 = .ok (.iload 8, 2) := by decide +kernel
theorem dL_law_56 : decode cL_law 56 = .ok (.imul, 1) := by decide +kernel
theorem dL_law_57 : decode cL_law 57 = .ok (.iconst 1, 1) := by decide +kernel
theorem dL_law_58 : decode cL_law 58 = .ok (.iadd, 1) := by decide +kernel
theorem dL_law_59 : decode cL_law 59 = .ok (.iconst 1, 1) := by decide +kernel
theorem dL_law_60 : decode cL_law 60 = .ok (.iastore, 1) := by decide +kernel
theorem dL_law_61 : decode cL_law 61 = .ok (.aload_n 3, 1) := by decide +kernel
theorem dL_law_62 : decode cL_law 62 = .ok (.bipush 6, 2) := by decide +kernel
theorem dL_law_64 : decode cL_law 64 = .ok (.iload 8, 2) := by decide +kernel
theorem dL_law_66 : decode cL_law 66 = .ok (.imul, 1) := by decide +kernel
theorem dL_law_67 : decode cL_law 67 = .ok (.iconst 3, 1) := by decide +kernel
theorem dL_law_68 : decode cL_law 68 = .ok (.iadd, 1) := by decide +kernel
theorem dL_law_69 : decode cL_law 69 = .ok (.bipush 7, 2) := by decide +kernel
theorem dL_law_71 : decode cL_law 71 = .ok (.iastore, 1) := by decide +kernel
theorem dL_law_72 : decode cL_law 72 = .ok (.aload_n 3, 1) := by decide +kernel
theorem dL_law_73 : decode cL_law 73 = .ok (.bipush 6, 2) := by decide +kernel
theorem dL_law_75 : decode cL_law 75 = .ok (.iload 8, 2) := by decide +kernel
theorem dL_law_77 : decode cL_law 77 = .ok (.imul, 1) := by decide +kernel
theorem dL_law_78 : decode cL_law 78 = .ok (.iconst 4, 1) := by decide +kernel
theorem dL_law_79 : decode cL_law 79 = .ok (.iadd, 1) := by decide +kernel
theorem dL_law_80 : decode cL_law 80 = .ok (.bipush 7, 2) := by decide +kernel
theorem dL_law_82 : decode cL_law 82 = .ok (.iastore, 1) := by decide +kernel
theorem dL_law_83 : decode cL_law 83 = .ok (.aload_n 3, 1) := by decide +kernel
theorem dL_law_84 : decode cL_law 84 = .ok (.bipush 6, 2) := by decide +kernel
theorem dL_law_86 : decode cL_law 86 = .ok (.iload 8, 2) := by decide +kernel
theorem dL_law_88 : decode cL_law 88 = .ok (.imul, 1) := by decide +kernel
theorem dL_law_89 : decode cL_law 89 = .ok (.iconst 5, 1) := by decide +kernel
theorem dL_law_90 : decode cL_law 90 = .ok (.iadd, 1) := by decide +kernel
theorem dL_law_91 : decode cL_law 91 = .ok (.bipush 7, 2) := by decide +kernel
theorem dL_law_93 : decode cL_law 93 = .ok (.iastore, 1) := by decide +kernel
theorem dL_law_94 : decode cL_law 94 = .ok (.iinc 8 1, 3) := by decide +kernel
theorem dL_law_97 : decode cL_law 97 = .ok (.goto (-53), 3) := by decide +kernel
theorem dL_law_100 : decode cL_law 100 = .ok (.iconst 0, 1) := by decide +kernel
theorem dL_law_101 : decode cL_law 101 = .ok (.istore 8, 2) := by decide +kernel
theorem dL_law_103 : decode cL_law 103 = .ok (.iload 8, 2) := by decide +kernel
theorem dL_law_105 : decode cL_law 105 = .ok (.iconst 4, 1) := by decide +kernel
theorem dL_law_106 : decode cL_law 106 = .ok (.if_icmp .ge 30, 3) := by decide +kernel
theorem dL_law_109 : decode cL_law 109 = .ok (.aload 4, 2) := by decide +kernel
theorem dL_law_111 : decode cL_law 111 = .ok (.iconst 3, 1) := by decide +kernel
theorem dL_law_112 : decode cL_law 112 = .ok (.iload 8, 2) := by decide +kernel
theorem dL_law_114 : decode cL_law 114 = .ok (.imul, 1) := by decide +kernel
theorem dL_law_115 : decode cL_law 115 = .ok (.iconst 1, 1) := by decide +kernel
theorem dL_law_116 : decode cL_law 116 = .ok (.iadd, 1) := by decide +kernel
theorem dL_law_117 : decode cL_law 117 = .ok (.bipush 50, 2) := by decide +kernel
theorem dL_law_119 : decode cL_law 119 = .ok (.iastore, 1) := by decide +kernel
theorem dL_law_120 : decode cL_law 120 = .ok (.aload 4, 2) := by decide +kernel
theorem dL_law_122 : decode cL_law 122 = .ok (.iconst 3, 1) := by decide +kernel
theorem dL_law_123 : decode cL_law 123 = .ok (.iload 8, 2) := by decide +kernel
theorem dL_law_125 : decode cL_law 125 = .ok (.imul, 1) := by decide +kernel
theorem dL_law_126 : decode cL_law 126 = .ok (.iconst 2, 1) := by decide +kernel
theorem dL_law_127 : decode cL_law 127 = .ok (.iadd, 1) := by decide +kernel
theorem dL_law_128 : decode cL_law 128 = .ok (.iconst (-1), 1) := by decide +kernel
theorem dL_law_129 : decode cL_law 129 = .ok (.iastore, 1) := by decide +kernel
theorem dL_law_130 : decode cL_law 130 = .ok (.iinc 8 1, 3) := by decide +kernel
theorem dL_law_133 : decode cL_law 133 = .ok (.goto (-30), 3) := by decide +kernel
theorem dL_law_136 : decode cL_law 136 = .ok (.iconst 0, 1) := by decide +kernel
theorem dL_law_137 : decode cL_law 137 = .ok (.istore 8, 2) := by decide +kernel
theorem dL_law_139 : decode cL_law 139 = .ok (.iload 8, 2) := by decide +kernel
theorem dL_law_141 : decode cL_law 141 = .ok (.bipush 90, 2) := by decide +kernel
theorem dL_law_143 : decode cL_law 143 = .ok (.if_icmp .ge 641, 3) := by decide +kernel
theorem dL_law_146 : decode cL_law 146 = .ok (.aload_n 0, 1) := by decide +kernel
theorem dL_law_147 : decode cL_law 147 = .ok (.iload 8, 2) := by decide +kernel
theorem dL_law_149 : decode cL_law 149 = .ok (.invokestatic 107, 3) := by decide +kernel
theorem dL_law_152 : decode cL_law 152 = .ok (.istore 9, 2) := by decide +kernel
theorem dL_law_154 : decode cL_law 154 = .ok (.iload 9, 2) := by decide +kernel
theorem dL_law_156 : decode cL_law 156 = .ok (.bipush 18, 2) := by decide +kernel
theorem dL_law_158 : decode cL_law 158 = .ok (.invokestatic 58, 3) := by decide +kernel
theorem dL_law_161 : decode cL_law 161 = .ok (.istore 10, 2) := by decide +kernel
theorem dL_law_163 : decode cL_law 163 = .ok (.iconst 1, 1) := by decide +kernel
theorem dL_law_164 : decode cL_law 164 = .ok (.istore 11, 2) := by decide +kernel
theorem dL_law_166 : decode cL_law 166 = .ok (.iload 10, 2) := by decide +kernel
theorem dL_law_168 : decode cL_law 168 = .ok (.iconst 3, 1) := by decide +kernel
theorem dL_law_169 : decode cL_law 169 = .ok (.if_icmp .ge 110, 3) := by decide +kernel
theorem dL_law_172 : decode cL_law 172 = .ok (.aload_n 2, 1) := by decide +kernel
theorem dL_law_173 : decode cL_law 173 = .ok (.iconst 2, 1) := by decide +kernel
theorem dL_law_174 : decode cL_law 174 = .ok (.iaload, 1) := by decide +kernel
theorem dL_law_175 : decode cL_law 175 = .ok (.bipush 8, 2) := by decide +kernel
theorem dL_law_177 : decode cL_law 177 = .ok (.if_icmp .ge 102, 3) := by decide +kernel
theorem dL_law_180 : decode cL_law 180 = .ok (.bipush 6, 2) := by decide +kernel
theorem dL_law_182 : decode cL_law 182 = .ok (.aload_n 2, 1) := by decide +kernel
theorem dL_law_183 : decode cL_law 183 = .ok (.iconst 2, 1) := by decide +kernel
theorem dL_law_184 : decode cL_law 184 = .ok (.iaload, 1) := by decide +kernel
theorem dL_law_185 : decode cL_law 185 = .ok (.imul, 1) := by decide +kernel
theorem dL_law_186 : decode cL_law 186 = .ok (.istore 12, 2) := by decide +kernel
theorem dL_law_188 : decode cL_law 188 = .ok (.aload 5, 2) := by decide +kernel
theorem dL_law_190 : decode cL_law 190 = .ok (.iload 12, 2) := by decide +kernel
theorem dL_law_192 : decode cL_law 192 = .ok (.iload 9, 2) := by decide +kernel
theorem dL_law_194 : decode cL_law 194 = .ok (.iconst 5, 1) := by decide +kernel
theorem dL_law_195 : decode cL_law 195 = .ok (.ishr, 1) := by decide +kernel
theorem dL_law_196 : decode cL_law 196 = .ok (.bipush 8, 2) := by decide +kernel
theorem dL_law_198 : decode cL_law 198 = .ok (.invokestatic 58, 3) := by decide +kernel
theorem dL_law_201 : decode cL_law 201 = .ok (.iastore, 1) := by decide +kernel
theorem dL_law_202 : decode cL_law 202 = .ok (.aload 5, 2) := by decide +kernel
theorem dL_law_204 : decode cL_law 204 = .ok (.iload 12, 2) := by decide +kernel
theorem dL_law_206 : decode cL_law 206 = .ok (.iconst 1, 1) := by decide +kernel
theorem dL_law_207 : decode cL_law 207 = .ok (.iadd, 1) := by decide +kernel
theorem dL_law_208 : decode cL_law 208 = .ok (.aload 5, 2) := by decide +kernel
theorem dL_law_210 : decode cL_law 210 = .ok (.iload 12, 2) := by decide +kernel
theorem dL_law_212 : decode cL_law 212 = .ok (.iaload, 1) := by decide +kernel
theorem dL_law_213 : decode cL_law 213 = .ok (.iconst 1, 1) := by decide +kernel
theorem dL_law_214 : decode cL_law 214 = .ok (.iadd, 1) := by decide +kernel
theorem dL_law_215 : decode cL_law 215 = .ok (.iload 9, 2) := by decide +kernel
theorem dL_law_217 : decode cL_law 217 = .ok (.bipush 8, 2) := by decide +kernel
theorem dL_law_219 : decode cL_law 219 = .ok (.ishr, 1) := by decide +kernel
theorem dL_law_220 : decode cL_law 220 = .ok (.bipush 7, 2) := by decide +kernel
theorem dL_law_222 : decode cL_law 222 = .ok (.invokestatic 58, 3) := by decide +kernel
theorem dL_law_225 : decode cL_law 225 = .ok (.iadd, 1) := by decide +kernel
theorem dL_law_226 : decode cL_law 226 = .ok (.bipush 8, 2) := by decide +kernel
theorem dL_law_228 : decode cL_law 228 = .ok (.irem, 1) := by decide +kernel
theorem dL_law_229 : decode cL_law 229 = .ok (.iastore, 1) := by decide +kernel
theorem dL_law_230 : decode cL_law 230 = .ok (.aload 5, 2) := by decide +kernel
theorem dL_law_232 : decode cL_law 232 = .ok (.iload 12, 2) := by decide +kernel
theorem dL_law_234 : decode cL_law 234 = .ok (.iconst 3, 1) := by decide +kernel
theorem dL_law_235 : decode cL_law 235 = .ok (.iadd, 1) := by decide +kernel
theorem dL_law_236 : decode cL_law 236 = .ok (.iconst (-1), 1) := by decide +kernel
theorem dL_law_237 : decode cL_law 237 = .ok (.iastore, 1) := by decide +kernel
theorem dL_law_238 : decode cL_law 238 = .ok (.aload_n 2, 1) := by decide +kernel
theorem dL_law_239 : decode cL_law 239 = .ok (.iconst 2, 1) := by decide +kernel
theorem dL_law_240 : decode cL_law 240 = .ok (.dup2, 1) := by decide +kernel
theorem dL_law_241 : decode cL_law 241 = .ok (.iaload, 1) := by decide +kernel
theorem dL_law_242 : decode cL_law 242 = .ok (.iconst 1, 1) := by decide +kernel
theorem dL_law_243 : decode cL_law 243 = .ok (.iadd, 1) := by decide +kernel
theorem dL_law_244 : decode cL_law 244 = .ok (.iastore, 1) := by decide +kernel
theorem dL_law_245 : decode cL_law 245 = .ok (.aload_n 1, 1) := by decide +kernel
theorem dL_law_246 : decode cL_law 246 = .ok (.aload 5, 2) := by decide +kernel
theorem dL_law_248 : decode cL_law 248 = .ok (.iload 12, 2) := by decide +kernel
theorem dL_law_250 : decode cL_law 250 = .ok (.iaload, 1) := by decide +kernel
theorem dL_law_251 : decode cL_law 251 = .ok (.aload 5, 2) := by decide +kernel
theorem dL_law_253 : decode cL_law 253 = .ok (.iload 12, 2) := by decide +kernel
theorem dL_law_255 : decode cL_law 255 = .ok (.iconst 1, 1) := by decide +kernel
theorem dL_law_256 : decode cL_law 256 = .ok (.iadd, 1) := by decide +kernel
theorem dL_law_257 : decode cL_law 257 = .ok (.iaload, 1) := by decide +kernel
theorem dL_law_258 : decode cL_law 258 = .ok (.invokevirtual 111, 3) := by decide +kernel
theorem dL_law_261 : decode cL_law 261 = .ok (.aload_n 2, 1) := by decide +kernel
theorem dL_law_262 : decode cL_law 262 = .ok (.iconst 2, 1) := by decide +kernel
theorem dL_law_263 : decode cL_law 263 = .ok (.iaload, 1) := by decide +kernel
theorem dL_law_264 : decode cL_law 264 = .ok (.iconst 1, 1) := by decide +kernel
theorem dL_law_265 : decode cL_law 265 = .ok (.isub, 1) := by decide +kernel
theorem dL_law_266 : decode cL_law 266 = .ok (.if_icmp .ne 7, 3) := by decide +kernel
theorem dL_law_269 : decode cL_law 269 = .ok (.iconst 1, 1) := by decide +kernel
theorem dL_law_270 : decode cL_law 270 = .ok (.goto 4, 3) := by decide +kernel
theorem dL_law_273 : decode cL_law 273 = .ok (.iconst 0, 1) := by decide +kernel
theorem dL_law_274 : decode cL_law 274 = .ok (.istore 11, 2) := by decide +kernel
theorem dL_law_276 : decode cL_law 276 = .ok (.goto 474, 3) := by decide +kernel
theorem dL_law_279 : decode cL_law 279 = .ok (.iload 10, 2) := by decide +kernel
theorem dL_law_281 : decode cL_law 281 = .ok (.bipush 8, 2) := by decide +kernel
theorem dL_law_283 : decode cL_law 283 = .ok (.if_icmp .ge 39, 3) := by decide +kernel
theorem dL_law_286 : decode cL_law 286 = .ok (.aload_n 1, 1) := by decide +kernel
theorem dL_law_287 : decode cL_law 287 = .ok (.iload 10, 2) := by decide +kernel
theorem dL_law_289 : decode cL_law 289 = .ok (.iconst 5, 1) := by decide +kernel
theorem dL_law_290 : decode cL_law 290 = .ok (.if_icmp .ge 7, 3) := by decide +kernel
theorem dL_law_293 : decode cL_law 293 = .ok (.iconst 0, 1) := by decide +kernel
theorem dL_law_294 : decode cL_law 294 = .ok (.goto 15, 3) := by decide +kernel
theorem dL_law_297 : decode cL_law 297 = .ok (.iload 10, 2) := by decide +kernel
theorem dL_law_299 : decode cL_law 299 = .ok (.bipush 7, 2) := by decide +kernel
theorem dL_law_301 : decode cL_law 301 = .ok (.if_icmp .ge 7, 3) := by decide +kernel
theorem dL_law_304 : decode cL_law 304 = .ok (.iconst 1, 1) := by decide +kernel
theorem dL_law_305 : decode cL_law 305 = .ok (.goto 4, 3) := by decide +kernel
theorem dL_law_308 : decode cL_law 308 = .ok (.iconst 2, 1) := by decide +kernel
theorem dL_law_309 : decode cL_law 309 = .ok (.iload 9, 2) := by decide +kernel
theorem dL_law_311 : decode cL_law 311 = .ok (.iconst 5, 1) := by decide +kernel
theorem dL_law_312 : decode cL_law 312 = .ok (.ishr, 1) := by decide +kernel
theorem dL_law_313 : decode cL_law 313 = .ok (.aload_n 3, 1) := by decide +kernel
theorem dL_law_314 : decode cL_law 314 = .ok (.invokestatic 114, 3) := by decide +kernel
theorem dL_law_317 : decode cL_law 317 = .ok (.istore 11, 2) := by decide +kernel
theorem dL_law_319 : decode cL_law 319 = .ok (.goto 431, 3) := by decide +kernel
theorem dL_law_322 : decode cL_law 322 = .ok (.iload 10, 2) := by decide +kernel
theorem dL_law_324 : decode cL_law 324 = .ok (.bipush 8, 2) := by decide +kernel
theorem dL_law_326 : decode cL_law 326 = .ok (.if_icmp .ne 99, 3) := by decide +kernel
theorem dL_law_329 : decode cL_law 329 = .ok (.iload 9, 2) := by decide +kernel
theorem dL_law_331 : decode cL_law 331 = .ok (.iconst 5, 1) := by decide +kernel
theorem dL_law_332 : decode cL_law 332 = .ok (.ishr, 1) := by decide +kernel
theorem dL_law_333 : decode cL_law 333 = .ok (.iconst 4, 1) := by decide +kernel
theorem dL_law_334 : decode cL_law 334 = .ok (.invokestatic 58, 3) := by decide +kernel
theorem dL_law_337 : decode cL_law 337 = .ok (.istore 12, 2) := by decide +kernel
theorem dL_law_339 : decode cL_law 339 = .ok (.iload 9, 2) := by decide +kernel
theorem dL_law_341 : decode cL_law 341 = .ok (.bipush 7, 2) := by decide +kernel
theorem dL_law_343 : decode cL_law 343 = .ok (.ishr, 1) := by decide +kernel
theorem dL_law_344 : decode cL_law 344 = .ok (.bipush 8, 2) := by decide +kernel
theorem dL_law_346 : decode cL_law 346 = .ok (.invokestatic 58, 3) := by decide +kernel
theorem dL_law_349 : decode cL_law 349 = .ok (.istore 13, 2) := by decide +kernel
theorem dL_law_351 : decode cL_law 351 = .ok (.aload 4, 2) := by decide +kernel
theorem dL_law_353 : decode cL_law 353 = .ok (.iconst 3, 1) := by decide +kernel
theorem dL_law_354 : decode cL_law 354 = .ok (.iload 12, 2) := by decide +kernel
theorem dL_law_356 : decode cL_law 356 = .ok (.imul, 1) := by decide +kernel
theorem dL_law_357 : decode cL_law 357 = .ok (.iconst 2, 1) := by decide +kernel
theorem dL_law_358 : decode cL_law 358 = .ok (.iadd, 1) := by decide +kernel
theorem dL_law_359 : decode cL_law 359 = .ok (.iaload, 1) := by decide +kernel
theorem dL_law_360 : decode cL_law 360 = .ok (.ifCond .ge 13, 3) := by decide +kernel
theorem dL_law_363 : decode cL_law 363 = .ok (.aload 4, 2) := by decide +kernel
theorem dL_law_365 : decode cL_law 365 = .ok (.iconst 3, 1) := by decide +kernel
theorem dL_law_366 : decode cL_law 366 = .ok (.iload 12, 2) := by decide +kernel
theorem dL_law_368 : decode cL_law 368 = .ok (.imul, 1) := by decide +kernel
theorem dL_law_369 : decode cL_law 369 = .ok (.iaload, 1) := by decide +kernel
theorem dL_law_370 : decode cL_law 370 = .ok (.goto 5, 3) := by decide +kernel
theorem dL_law_373 : decode cL_law 373 = .ok (.bipush (-3), 2) := by decide +kernel
theorem dL_law_375 : decode cL_law 375 = .ok (.istore 14, 2) := by decide +kernel
theorem dL_law_377 : decode cL_law 377 = .ok (.aload 4, 2) := by decide +kernel
theorem dL_law_379 : decode cL_law 379 = .ok (.iconst 3, 1) := by decide +kernel
theorem dL_law_380 : decode cL_law 380 = .ok (.iload 12, 2) := by decide +kernel
theorem dL_law_382 : decode cL_law 382 = .ok (.imul, 1) := by decide +kernel
theorem dL_law_383 : decode cL_law 383 = .ok (.iload 14, 2) := by decide +kernel
theorem dL_law_385 : decode cL_law 385 = .ok (.ifCond .ge 13, 3) := by decide +kernel
theorem dL_law_388 : decode cL_law 388 = .ok (.aload 4, 2) := by decide +kernel
theorem dL_law_390 : decode cL_law 390 = .ok (.iconst 3, 1) := by decide +kernel
theorem dL_law_391 : decode cL_law 391 = .ok (.iload 12, 2) := by decide +kernel
theorem dL_law_393 : decode cL_law 393 = .ok (.imul, 1) := by decide +kernel
theorem dL_law_394 : decode cL_law 394 = .ok (.iaload, 1) := by decide +kernel
theorem dL_law_395 : decode cL_law 395 = .ok (.goto 5, 3) := by decide +kernel
theorem dL_law_398 : decode cL_law 398 = .ok (.iload 13, 2) := by decide +kernel
theorem dL_law_400 : decode cL_law 400 = .ok (.iastore, 1) := by decide +kernel
theorem dL_law_401 : decode cL_law 401 = .ok (.aload_n 1, 1) := by decide +kernel
theorem dL_law_402 : decode cL_law 402 = .ok (.iconst 0, 1) := by decide +kernel
theorem dL_law_403 : decode cL_law 403 = .ok (.iload 12, 2) := by decide +kernel
theorem dL_law_405 : decode cL_law 405 = .ok (.iload 13, 2) := by decide +kernel
theorem dL_law_407 : decode cL_law 407 = .ok (.invokestatic 118, 3) := by decide +kernel
theorem dL_law_410 : decode cL_law 410 = .ok (.iload 14, 2) := by decide +kernel
theorem dL_law_412 : decode cL_law 412 = .ok (.if_icmp .ne 7, 3) := by decide +kernel
theorem dL_law_415 : decode cL_law 415 = .ok (.iconst 1, 1) := by decide +kernel
theorem dL_law_416 : decode cL_law 416 = .ok (.goto 4, 3) := by decide +kernel
theorem dL_law_419 : decode cL_law 419 = .ok (.iconst 0, 1) := by decide +kernel
theorem dL_law_420 : decode cL_law 420 = .ok (.istore 11, 2) := by decide +kernel
theorem dL_law_422 : decode cL_law 422 = .ok (.goto 328, 3) := by decide +kernel
theorem dL_law_425 : decode cL_law 425 = .ok (.iload 10, 2) := by decide +kernel
theorem dL_law_427 : decode cL_law 427 = .ok (.bipush 11, 2) := by decide +kernel
theorem dL_law_429 : decode cL_law 429 = .ok (.if_icmp .ge 31, 3) := by decide +kernel
theorem dL_law_432 : decode cL_law 432 = .ok (.aload_n 1, 1) := by decide +kernel
theorem dL_law_433 : decode cL_law 433 = .ok (.iconst 1, 1) := by decide +kernel
theorem dL_law_434 : decode cL_law 434 = .ok (.iconst 0, 1) := by decide +kernel
theorem dL_law_435 : decode cL_law 435 = .ok (.iconst 0, 1) := by decide +kernel
theorem dL_law_436 : decode cL_law 436 = .ok (.invokestatic 118, 3) := by decide +kernel
theorem dL_law_439 : decode cL_law 439 = .ok (.aload 5, 2) := by decide +kernel
theorem dL_law_441 : decode cL_law 441 = .ok (.aload 7, 2) := by decide +kernel
theorem dL_law_443 : decode cL_law 443 = .ok (.aload_n 2, 1) := by decide +kernel
theorem dL_law_444 : decode cL_law 444 = .ok (.invokestatic 122, 3) := by decide +kernel
theorem dL_law_447 : decode cL_law 447 = .ok (.if_icmp .ne 7, 3) := by decide +kernel
theorem dL_law_450 : decode cL_law 450 = .ok (.iconst 1, 1) := by decide +kernel
theorem dL_law_451 : decode cL_law 451 = .ok (.goto 4, 3) := by decide +kernel
theorem dL_law_454 : decode cL_law 454 = .ok (.iconst 0, 1) := by decide +kernel
theorem dL_law_455 : decode cL_law 455 = .ok (.istore 11, 2) := by decide +kernel
theorem dL_law_457 : decode cL_law 457 = .ok (.goto 293, 3) := by decide +kernel
theorem dL_law_460 : decode cL_law 460 = .ok (.iload 10, 2) := by decide +kernel
theorem dL_law_462 : decode cL_law 462 = .ok (.bipush 13, 2) := by decide +kernel
theorem dL_law_464 : decode cL_law 464 = .ok (.if_icmp .ge 214, 3) := by decide +kernel
theorem dL_law_467 : decode cL_law 467 = .ok (.aload_n 2, 1) := by decide +kernel
theorem dL_law_468 : decode cL_law 468 = .ok (.iconst 2, 1) := by decide +kernel
theorem dL_law_469 : decode cL_law 469 = .ok (.iaload, 1) := by decide +kernel
theorem dL_law_470 : decode cL_law 470 = .ok (.ifCond .le 208, 3) := by decide +kernel
theorem dL_law_473 : decode cL_law 473 = .ok (.iload 9, 2) := by decide +kernel
theorem dL_law_475 : decode cL_law 475 = .ok (.iconst 5, 1) := by decide +kernel
theorem dL_law_476 : decode cL_law 476 = .ok (.ishr, 1) := by decide +kernel
theorem dL_law_477 : decode cL_law 477 = .ok (.aload_n 2, 1) := by decide +kernel
theorem dL_law_478 : decode cL_law 478 = .ok (.iconst 2, 1) := by decide +kernel
theorem dL_law_479 : decode cL_law 479 = .ok (.iaload, 1) := by decide +kernel
theorem dL_law_480 : decode cL_law 480 = .ok (.invokestatic 58, 3) := by decide +kernel
theorem dL_law_483 : decode cL_law 483 = .ok (.istore 12, 2) := by decide +kernel
theorem dL_law_485 : decode cL_law 485 = .ok (.iload 9, 2) := by decide +kernel
theorem dL_law_487 : decode cL_law 487 = .ok (.bipush 8, 2) := by decide +kernel
theorem dL_law_489 : decode cL_law 489 = .ok (.ishr, 1) := by decide +kernel
theorem dL_law_490 : decode cL_law 490 = .ok (.iconst 2, 1) := by decide +kernel
theorem dL_law_491 : decode cL_law 491 = .ok (.invokestatic 58, 3) := by decide +kernel
theorem dL_law_494 : decode cL_law 494 = .ok (.istore 13, 2) := by decide +kernel
theorem dL_law_496 : decode cL_law 496 = .ok (.aload 5, 2) := by decide +kernel
theorem dL_law_498 : decode cL_law 498 = .ok (.bipush 6, 2) := by decide +kernel
theorem dL_law_500 : decode cL_law 500 = .ok (.iload 12, 2) := by decide +kernel
theorem dL_law_502 : decode cL_law 502 = .ok (.imul, 1) := by decide +kernel
theorem dL_law_503 : decode cL_law 503 = .ok (.iconst 2, 1) := by decide +kernel
theorem dL_law_504 : decode cL_law 504 = .ok (.iadd, 1) := by decide +kernel
theorem dL_law_505 : decode cL_law 505 = .ok (.iaload, 1) := by decide +kernel
theorem dL_law_506 : decode cL_law 506 = .ok (.iconst 3, 1) := by decide +kernel
theorem dL_law_507 : decode cL_law 507 = .ok (.if_icmp .ne 20, 3) := by decide +kernel
theorem dL_law_510 : decode cL_law 510 = .ok (.aload 5, 2) := by decide +kernel
theorem dL_law_512 : decode cL_law 512 = .ok (.bipush 6, 2) := by decide +kernel
theorem dL_law_514 : decode cL_law 514 = .ok (.iload 12, 2) := by decide +kernel
theorem dL_law_516 : decode cL_law 516 = .ok (.imul, 1) := by decide +kernel
theorem dL_law_517 : decode cL_law 517 = .ok (.iconst 5, 1) := by decide +kernel
theorem dL_law_518 : decode cL_law 518 = .ok (.iadd, 1) := by decide +kernel
theorem dL_law_519 : decode cL_law 519 = .ok (.iaload, 1) := by decide +kernel
theorem dL_law_520 : decode cL_law 520 = .ok (.ifCond .ne 7, 3) := by decide +kernel
theorem dL_law_523 : decode cL_law 523 = .ok (.iconst 1, 1) := by decide +kernel
theorem dL_law_524 : decode cL_law 524 = .ok (.goto 4, 3) := by decide +kernel
theorem dL_law_527 : decode cL_law 527 = .ok (.iconst 0, 1) := by decide +kernel
theorem dL_law_528 : decode cL_law 528 = .ok (.istore 14, 2) := by decide +kernel
theorem dL_law_530 : decode cL_law 530 = .ok (.iload 14, 2) := by decide +kernel
theorem dL_law_532 : decode cL_law 532 = .ok (.ifCond .eq 20, 3) := by decide +kernel
theorem dL_law_535 : decode cL_law 535 = .ok (.iconst 3, 1) := by decide +kernel
theorem dL_law_536 : decode cL_law 536 = .ok (.aload 5, 2) := by decide +kernel
theorem dL_law_538 : decode cL_law 538 = .ok (.bipush 6, 2) := by decide +kernel
theorem dL_law_540 : decode cL_law 540 = .ok (.iload 12, 2) := by decide +kernel
theorem dL_law_542 : decode cL_law 542 = .ok (.imul, 1) := by decide +kernel
theorem dL_law_543 : decode cL_law 543 = .ok (.iconst 3, 1) := by decide +kernel
theorem dL_law_544 : decode cL_law 544 = .ok (.iadd, 1) := by decide +kernel
theorem dL_law_545 : decode cL_law 545 = .ok (.iaload, 1) := by decide +kernel
theorem dL_law_546 : decode cL_law 546 = .ok (.imul, 1) := by decide +kernel
theorem dL_law_547 : decode cL_law 547 = .ok (.iconst 1, 1) := by decide +kernel
theorem dL_law_548 : decode cL_law 548 = .ok (.iadd, 1) := by decide +kernel
theorem dL_law_549 : decode cL_law 549 = .ok (.goto 4, 3) := by decide +kernel
theorem dL_law_552 : decode cL_law 552 = .ok (.iconst 1, 1) := by decide +kernel
theorem dL_law_553 : decode cL_law 553 = .ok (.istore 15, 2) := by decide +kernel
theorem dL_law_555 : decode cL_law 555 = .ok (.aload 4, 2) := by decide +kernel
theorem dL_law_557 : decode cL_law 557 = .ok (.iload 15, 2) := by decide +kernel
theorem dL_law_559 : decode cL_law 559 = .ok (.iaload, 1) := by decide +kernel
theorem dL_law_560 : decode cL_law 560 = .ok (.bipush 15, 2) := by decide +kernel
theorem dL_law_562 : decode cL_law 562 = .ok (.iload 13, 2) := by decide +kernel
theorem dL_law_564 : decode cL_law 564 = .ok (.imul, 1) := by decide +kernel
theorem dL_law_565 : decode cL_law 565 = .ok (.iadd, 1) := by decide +kernel
theorem dL_law_566 : decode cL_law 566 = .ok (.bipush 10, 2) := by decide +kernel
theorem dL_law_568 : decode cL_law 568 = .ok (.isub, 1) := by decide +kernel
theorem dL_law_569 : decode cL_law 569 = .ok (.istore 16, 2) := by decide +kernel
theorem dL_law_571 : decode cL_law 571 = .ok (.aload 4, 2) := by decide +kernel
theorem dL_law_573 : decode cL_law 573 = .ok (.iload 15, 2) := by decide +kernel
theorem dL_law_575 : decode cL_law 575 = .ok (.iload 14, 2) := by decide +kernel
theorem dL_law_577 : decode cL_law 577 = .ok (.ifCond .ne 11, 3) := by decide +kernel
theorem dL_law_580 : decode cL_law 580 = .ok (.aload 4, 2) := by decide +kernel
theorem dL_law_582 : decode cL_law 582 = .ok (.iload 15, 2) := by decide +kernel
theorem dL_law_584 : decode cL_law 584 = .ok (.iaload, 1) := by decide +kernel
theorem dL_law_585 : decode cL_law 585 = .ok (.goto 26, 3) := by decide +kernel
theorem dL_law_588 : decode cL_law 588 = .ok (.iload 16, 2) := by decide +kernel
theorem dL_law_590 : decode cL_law 590 = .ok (.ifCond .ge 7, 3) := by decide +kernel
theorem dL_law_593 : decode cL_law 593 = .ok (.iconst 0, 1) := by decide +kernel
theorem dL_law_594 : decode cL_law 594 = .ok (.goto 17, 3) := by decide +kernel
theorem dL_law_597 : decode cL_law 597 = .ok (.iload 16, 2) := by decide +kernel
theorem dL_law_599 : decode cL_law 599 = .ok (.bipush 100, 2) := by decide +kernel
theorem dL_law_601 : decode cL_law 601 = .ok (.if_icmp .le 8, 3) := by decide +kernel
theorem dL_law_604 : decode cL_law 604 = .ok (.bipush 100, 2) := by decide +kernel
theorem dL_law_606 : decode cL_law 606 = .ok (.goto 5, 3) := by decide +kernel
theorem dL_law_609 : decode cL_law 609 = .ok (.iload 16, 2) := by decide +kernel
theorem dL_law_611 : decode cL_law 611 = .ok (.iastore, 1) := by decide +kernel
theorem dL_law_612 : decode cL_law 612 = .ok (.aload 5, 2) := by decide +kernel
theorem dL_law_614 : decode cL_law 614 = .ok (.bipush 6, 2) := by decide +kernel
theorem dL_law_616 : decode cL_law 616 = .ok (.iload 12, 2) := by decide +kernel
theorem dL_law_618 : decode cL_law 618 = .ok (.imul, 1) := by decide +kernel
theorem dL_law_619 : decode cL_law 619 = .ok (.iconst 5, 1) := by decide +kernel
theorem dL_law_620 : decode cL_law 620 = .ok (.iadd, 1) := by decide +kernel
theorem dL_law_621 : decode cL_law 621 = .ok (.iload 14, 2) := by decide +kernel
theorem dL_law_623 : decode cL_law 623 = .ok (.ifCond .eq 7, 3) := by decide +kernel
theorem dL_law_626 : decode cL_law 626 = .ok (.iconst 1, 1) := by decide +kernel
theorem dL_law_627 : decode cL_law 627 = .ok (.goto 13, 3) := by decide +kernel
theorem dL_law_630 : decode cL_law 630 = .ok (.aload 5, 2) := by decide +kernel
theorem dL_law_632 : decode cL_law 632 = .ok (.bipush 6, 2) := by decide +kernel
theorem dL_law_634 : decode cL_law 634 = .ok (.iload 12, 2) := by decide +kernel
theorem dL_law_636 : decode cL_law 636 = .ok (.imul, 1) := by decide +kernel
theorem dL_law_637 : decode cL_law 637 = .ok (.iconst 5, 1) := by decide +kernel
theorem dL_law_638 : decode cL_law 638 = .ok (.iadd, 1) := by decide +kernel
theorem dL_law_639 : decode cL_law 639 = .ok (.iaload, 1) := by decide +kernel
theorem dL_law_640 : decode cL_law 640 = .ok (.iastore, 1) := by decide +kernel
theorem dL_law_641 : decode cL_law 641 = .ok (.aload_n 1, 1) := by decide +kernel
theorem dL_law_642 : decode cL_law 642 = .ok (.iconst 2, 1) := by decide +kernel
theorem dL_law_643 : decode cL_law 643 = .ok (.iload 12, 2) := by decide +kernel
theorem dL_law_645 : decode cL_law 645 = .ok (.iload 13, 2) := by decide +kernel
theorem dL_law_647 : decode cL_law 647 = .ok (.invokestatic 118, 3) := by decide +kernel
theorem dL_law_650 : decode cL_law 650 = .ok (.iload 14, 2) := by decide +kernel
theorem dL_law_652 : decode cL_law 652 = .ok (.ifCond .eq 11, 3) := by decide +kernel
theorem dL_law_655 : decode cL_law 655 = .ok (.aload 4, 2) := by decide +kernel
theorem dL_law_657 : decode cL_law 657 = .ok (.iload 15, 2) := by decide +kernel
theorem dL_law_659 : decode cL_law 659 = .ok (.iaload, 1) := by decide +kernel
theorem dL_law_660 : decode cL_law 660 = .ok (.goto 5, 3) := by decide +kernel
theorem dL_law_663 : decode cL_law 663 = .ok (.bipush (-3), 2) := by decide +kernel
theorem dL_law_665 : decode cL_law 665 = .ok (.if_icmp .ne 7, 3) := by decide +kernel
theorem dL_law_668 : decode cL_law 668 = .ok (.iconst 1, 1) := by decide +kernel
theorem dL_law_669 : decode cL_law 669 = .ok (.goto 4, 3) := by decide +kernel
theorem dL_law_672 : decode cL_law 672 = .ok (.iconst 0, 1) := by decide +kernel
theorem dL_law_673 : decode cL_law 673 = .ok (.istore 11, 2) := by decide +kernel
theorem dL_law_675 : decode cL_law 675 = .ok (.goto 75, 3) := by decide +kernel
theorem dL_law_678 : decode cL_law 678 = .ok (.iconst 1, 1) := by decide +kernel
theorem dL_law_679 : decode cL_law 679 = .ok (.iload 9, 2) := by decide +kernel
theorem dL_law_681 : decode cL_law 681 = .ok (.iconst 5, 1) := by decide +kernel
theorem dL_law_682 : decode cL_law 682 = .ok (.ishr, 1) := by decide +kernel
theorem dL_law_683 : decode cL_law 683 = .ok (.iload 9, 2) := by decide +kernel
theorem dL_law_685 : decode cL_law 685 = .ok (.bipush 13, 2) := by decide +kernel
theorem dL_law_687 : decode cL_law 687 = .ok (.ishr, 1) := by decide +kernel
theorem dL_law_688 : decode cL_law 688 = .ok (.iconst 4, 1) := by decide +kernel
theorem dL_law_689 : decode cL_law 689 = .ok (.invokestatic 58, 3) := by decide +kernel
theorem dL_law_692 : decode cL_law 692 = .ok (.ifCond .ne 8, 3) := by decide +kernel
theorem dL_law_695 : decode cL_law 695 = .ok (.bipush 60, 2) := by decide +kernel
theorem dL_law_697 : decode cL_law 697 = .ok (.goto 4, 3) := by decide +kernel
theorem dL_law_700 : decode cL_law 700 = .ok (.iconst 3, 1) := by decide +kernel
theorem dL_law_701 : decode cL_law 701 = .ok (.invokestatic 58, 3) := by decide +kernel
theorem dL_law_704 : decode cL_law 704 = .ok (.iadd, 1) := by decide +kernel
theorem dL_law_705 : decode cL_law 705 = .ok (.istore 12, 2) := by decide +kernel
theorem dL_law_707 : decode cL_law 707 = .ok (.aload_n 2, 1) := by decide +kernel
theorem dL_law_708 : decode cL_law 708 = .ok (.iconst 1, 1) := by decide +kernel
theorem dL_law_709 : decode cL_law 709 = .ok (.iaload, 1) := by decide +kernel
theorem dL_law_710 : decode cL_law 710 = .ok (.iload 12, 2) := by decide +kernel
theorem dL_law_712 : decode cL_law 712 = .ok (.iadd, 1) := by decide +kernel
theorem dL_law_713 : decode cL_law 713 = .ok (.sipush 1000, 3) := by decide +kernel
theorem dL_law_716 : decode cL_law 716 = .ok (.if_icmp .gt 27, 3) := by decide +kernel
theorem dL_law_719 : decode cL_law 719 = .ok (.aload_n 1, 1) := by decide +kernel
theorem dL_law_720 : decode cL_law 720 = .ok (.iload 12, 2) := by decide +kernel
theorem dL_law_722 : decode cL_law 722 = .ok (.invokevirtual 125, 3) := by decide +kernel
theorem dL_law_725 : decode cL_law 725 = .ok (.iload 12, 2) := by decide +kernel
theorem dL_law_727 : decode cL_law 727 = .ok (.aload_n 3, 1) := by decide +kernel
theorem dL_law_728 : decode cL_law 728 = .ok (.aload 4, 2) := by decide +kernel
theorem dL_law_730 : decode cL_law 730 = .ok (.aload 5, 2) := by decide +kernel
theorem dL_law_732 : decode cL_law 732 = .ok (.aload 6, 2) := by decide +kernel
theorem dL_law_734 : decode cL_law 734 = .ok (.aload 7, 2) := by decide +kernel
theorem dL_law_736 : decode cL_law 736 = .ok (.aload_n 2, 1) := by decide +kernel
theorem dL_law_737 : decode cL_law 737 = .ok (.invokestatic 128, 3) := by decide +kernel
theorem dL_law_740 : decode cL_law 740 = .ok (.if_icmp .ne 7, 3) := by decide +kernel
theorem dL_law_743 : decode cL_law 743 = .ok (.iconst 1, 1) := by decide +kernel
theorem dL_law_744 : decode cL_law 744 = .ok (.goto 4, 3) := by decide +kernel
theorem dL_law_747 : decode cL_law 747 = .ok (.iconst 0, 1) := by decide +kernel
theorem dL_law_748 : decode cL_law 748 = .ok (.istore 11, 2) := by decide +kernel
theorem dL_law_750 : decode cL_law 750 = .ok (.iload 11, 2) := by decide +kernel
theorem dL_law_752 : decode cL_law 752 = .ok (.ifCond .eq 24, 3) := by decide +kernel
theorem dL_law_755 : decode cL_law 755 = .ok (.aload_n 1, 1) := by decide +kernel
theorem dL_law_756 : decode cL_law 756 = .ok (.iload 9, 2) := by decide +kernel
theorem dL_law_758 : decode cL_law 758 = .ok (.iconst 3, 1) := by decide +kernel
theorem dL_law_759 : decode cL_law 759 = .ok (.ishr, 1) := by decide +kernel
theorem dL_law_760 : decode cL_law 760 = .ok (.aload_n 3, 1) := by decide +kernel
theorem dL_law_761 : decode cL_law 761 = .ok (.aload 4, 2) := by decide +kernel
theorem dL_law_763 : decode cL_law 763 = .ok (.aload 5, 2) := by decide +kernel
theorem dL_law_765 : decode cL_law 765 = .ok (.aload 6, 2) := by decide +kernel
theorem dL_law_767 : decode cL_law 767 = .ok (.aload 7, 2) := by decide +kernel
theorem dL_law_769 : decode cL_law 769 = .ok (.aload_n 2, 1) := by decide +kernel
theorem dL_law_770 : decode cL_law 770 = .ok (.invokestatic 132, 3) := by decide +kernel
theorem dL_law_773 : decode cL_law 773 = .ok (.ifCond .ne 5, 3) := by decide +kernel
theorem dL_law_776 : decode cL_law 776 = .ok (.iconst 0, 1) := by decide +kernel
theorem dL_law_777 : decode cL_law 777 = .ok (.ireturn, 1) := by decide +kernel
theorem dL_law_778 : decode cL_law 778 = .ok (.iinc 8 1, 3) := by decide +kernel
theorem dL_law_781 : decode cL_law 781 = .ok (.goto (-642), 3) := by decide +kernel
theorem dL_law_784 : decode cL_law 784 = .ok (.iconst 1, 1) := by decide +kernel
theorem dL_law_785 : decode cL_law 785 = .ok (.ireturn, 1) := by decide +kernel
end
section
/-! the abstract store: addresses, kinds, int fields, reference fields (by field, then address), lengths, int rows, reference rows, long rows -/
abbrev Mem : Type := List Nat × (Nat → Nat) × (Nat → Nat → Int32) × (Nat → Nat → Option Nat) × (Nat → Nat) × (Nat → Nat → Int32) × (Nat → Nat → Option Nat) × (Nat → Nat → Int64)
def mL (u : Mem) : List Nat := u.1
def mK (u : Mem) : Nat → Nat := u.2.1
def mI (u : Mem) : Nat → Nat → Int32 := u.2.2.1
def mR (u : Mem) : Nat → Nat → Option Nat := u.2.2.2.1
def mN (u : Mem) : Nat → Nat := u.2.2.2.2.1
def mA (u : Mem) : Nat → Nat → Int32 := u.2.2.2.2.2.1
def mB (u : Mem) : Nat → Nat → Option Nat := u.2.2.2.2.2.2.1
def mJ (u : Mem) : Nat → Nat → Int64 := u.2.2.2.2.2.2.2
def setI (u : Mem) (f a : Nat) (v : Int32) : Mem := (mL u, mK u, (fun g b => if g = f ∧ b = a then v else mI u g b), mR u, mN u, mA u, mB u, mJ u)
def setR (u : Mem) (f a : Nat) (v : Option Nat) : Mem := (mL u, mK u, mI u, (fun g b => if g = f ∧ b = a then v else mR u g b), mN u, mA u, mB u, mJ u)
def setA (u : Mem) (a i : Nat) (v : Int32) : Mem := (mL u, mK u, mI u, mR u, mN u, (fun b j => if b = a ∧ j = i then v else mA u b j), mB u, mJ u)
def setB (u : Mem) (a i : Nat) (v : Option Nat) : Mem := (mL u, mK u, mI u, mR u, mN u, mA u, (fun b j => if b = a ∧ j = i then v else mB u b j), mJ u)
def setC (u : Mem) (a : Nat) (f : Nat → Option Nat) : Mem := (mL u, mK u, mI u, mR u, mN u, mA u, (fun b => if b = a then f else mB u b), mJ u)
def setJ (u : Mem) (a i : Nat) (v : Int64) : Mem := (mL u, mK u, mI u, mR u, mN u, mA u, mB u, (fun b j => if b = a ∧ j = i then v else mJ u b j))
def mNew (u : Mem) (q k n : Nat) : Mem := (mL u ++ [q], (fun b => if b = q then k else mK u b), (fun g b => if b = q then 0 else mI u g b), (fun g b => if b = q then none else mR u g b), (fun b => if b = q then n else mN u b), (fun b => if b = q then (fun _ => 0) else mA u b), (fun b => if b = q then (fun _ => none) else mB u b), (fun b => if b = q then (fun _ => 0) else mJ u b))
def OB (u : Mem) (a k : Nat) : Prop := a ∈ mL u ∧ mK u a = k
/-- the classes' numbers and slots; the numbers of the array classes; 0: the first address of ours, 1: the empty array, 2: a class object -/
abbrev Ctx : Type := va_G × (Nat → ClassId) × (Nat → Nat)
def Ab (G : Ctx) : Nat → Prop := fun q => G.2.2 0 ≤ q
def cel (G : Ctx) (u : Mem) (a : Nat) : va_E := if mK u a = 0 then .inr (0, [.int (mI u 0 a), va_rf (mR u 1 a), .int (mI u 2 a)]) else if mK u a = 1 then .inr (1, [va_rf (mR u 32 a), va_rf (mR u 33 a)]) else if mK u a = 2 then .inr (2, [.int (mI u 64 a), .int (mI u 65 a), .int (mI u 66 a), .int (mI u 67 a)]) else if mK u a = 3 then .inr (3, [.int (mI u 96 a), .int (mI u 97 a), .int (mI u 98 a), .int (mI u 99 a)]) else if mK u a = 4 then .inr (4, [.int (mI u 128 a), .int (mI u 129 a), .int (mI u 130 a), va_rf (mR u 131 a)]) else if mK u a = 5 then .inr (5, [.int (mI u 160 a), .int (mI u 161 a), .int (mI u 162 a), .int (mI u 163 a), va_rf (mR u 164 a), .int (mI u 165 a), .int (mI u 166 a)]) else if mK u a = 6 then .inr (6, [va_rf (mR u 192 a), va_rf (mR u 193 a), va_rf (mR u 194 a), va_rf (mR u 195 a), .int (mI u 196 a), .int (mI u 197 a)]) else if mK u a = 8 then .inl (G.2.1 0, mN u a, .inl (mA u a)) else if mK u a = 9 then .inl (G.2.1 1, mN u a, .inl (mA u a)) else if mK u a = 10 then .inl (G.2.1 2, mN u a, .inr (.inl (mJ u a))) else if mK u a = 11 then .inl (G.2.1 3, mN u a, .inr (.inr (.inr (.inr (mB u a))))) else if mK u a = 12 then .inl (G.2.1 4, mN u a, .inr (.inr (.inr (.inr (mB u a))))) else if mK u a = 13 then .inl (G.2.1 5, mN u a, .inr (.inr (.inr (.inr (mB u a))))) else .inr (99, [])
theorem cel_0 {G : Ctx} {u : Mem} {a : Nat} (h : mK u a = 0) : cel G u a = .inr (0, [.int (mI u 0 a), va_rf (mR u 1 a), .int (mI u 2 a)]) := by simp [cel, h]
theorem cel_1 {G : Ctx} {u : Mem} {a : Nat} (h : mK u a = 1) : cel G u a = .inr (1, [va_rf (mR u 32 a), va_rf (mR u 33 a)]) := by simp [cel, h]
theorem cel_2 {G : Ctx} {u : Mem} {a : Nat} (h : mK u a = 2) : cel G u a = .inr (2, [.int (mI u 64 a), .int (mI u 65 a), .int (mI u 66 a), .int (mI u 67 a)]) := by simp [cel, h]
theorem cel_3 {G : Ctx} {u : Mem} {a : Nat} (h : mK u a = 3) : cel G u a = .inr (3, [.int (mI u 96 a), .int (mI u 97 a), .int (mI u 98 a), .int (mI u 99 a)]) := by simp [cel, h]
theorem cel_4 {G : Ctx} {u : Mem} {a : Nat} (h : mK u a = 4) : cel G u a = .inr (4, [.int (mI u 128 a), .int (mI u 129 a), .int (mI u 130 a), va_rf (mR u 131 a)]) := by simp [cel, h]
theorem cel_5 {G : Ctx} {u : Mem} {a : Nat} (h : mK u a = 5) : cel G u a = .inr (5, [.int (mI u 160 a), .int (mI u 161 a), .int (mI u 162 a), .int (mI u 163 a), va_rf (mR u 164 a), .int (mI u 165 a), .int (mI u 166 a)]) := by simp [cel, h]
theorem cel_6 {G : Ctx} {u : Mem} {a : Nat} (h : mK u a = 6) : cel G u a = .inr (6, [va_rf (mR u 192 a), va_rf (mR u 193 a), va_rf (mR u 194 a), va_rf (mR u 195 a), .int (mI u 196 a), .int (mI u 197 a)]) := by simp [cel, h]
theorem cel_8 {G : Ctx} {u : Mem} {a : Nat} (h : mK u a = 8) : cel G u a = .inl (G.2.1 0, mN u a, .inl (mA u a)) := by simp [cel, h]
theorem cel_9 {G : Ctx} {u : Mem} {a : Nat} (h : mK u a = 9) : cel G u a = .inl (G.2.1 1, mN u a, .inl (mA u a)) := by simp [cel, h]
theorem cel_10 {G : Ctx} {u : Mem} {a : Nat} (h : mK u a = 10) : cel G u a = .inl (G.2.1 2, mN u a, .inr (.inl (mJ u a))) := by simp [cel, h]
theorem cel_11 {G : Ctx} {u : Mem} {a : Nat} (h : mK u a = 11) : cel G u a = .inl (G.2.1 3, mN u a, .inr (.inr (.inr (.inr (mB u a))))) := by simp [cel, h]
theorem cel_12 {G : Ctx} {u : Mem} {a : Nat} (h : mK u a = 12) : cel G u a = .inl (G.2.1 4, mN u a, .inr (.inr (.inr (.inr (mB u a))))) := by simp [cel, h]
theorem cel_13 {G : Ctx} {u : Mem} {a : Nat} (h : mK u a = 13) : cel G u a = .inl (G.2.1 5, mN u a, .inr (.inr (.inr (.inr (mB u a))))) := by simp [cel, h]
theorem cel_same {G : Ctx} {u v : Mem} {b : Nat} (h1 : mK v b = mK u b) (h2 : ∀ g, mI v g b = mI u g b) (h3 : ∀ g, mR v g b = mR u g b) (h4 : mN v b = mN u b) (h5 : mA v b = mA u b) (h6 : mB v b = mB u b) (h7 : mJ v b = mJ u b) : cel G v b = cel G u b := by
  simp only [cel, h1, h2, h3, h4, h5, h6, h7]
theorem up_I {G : Ctx} {u : Mem} {f a : Nat} {v : Int32} {e : va_E} (h : cel G (setI u f a v) a = e) (b : Nat) : va_up (cel G u) a e b = cel G (setI u f a v) b := by
  by_cases hb : b = a
  · subst hb; rw [va_up_self]; exact h.symm
  · rw [va_up_ne _ _ hb]; exact (cel_same (u := u) (v := setI u f a v) rfl (fun g => by simp [setI, mI, hb]) (fun _ => rfl) rfl rfl rfl rfl).symm
theorem up_R {G : Ctx} {u : Mem} {f a : Nat} {v : Option Nat} {e : va_E} (h : cel G (setR u f a v) a = e) (b : Nat) : va_up (cel G u) a e b = cel G (setR u f a v) b := by
  by_cases hb : b = a
  · subst hb; rw [va_up_self]; exact h.symm
  · rw [va_up_ne _ _ hb]; exact (cel_same (u := u) (v := setR u f a v) rfl (fun _ => rfl) (fun g => by simp [setR, mR, hb]) rfl rfl rfl rfl).symm
theorem up_A {G : Ctx} {u : Mem} {a i : Nat} {v : Int32} {e : va_E} (h : cel G (setA u a i v) a = e) (b : Nat) : va_up (cel G u) a e b = cel G (setA u a i v) b := by
  by_cases hb : b = a
  · subst hb; rw [va_up_self]; exact h.symm
  · rw [va_up_ne _ _ hb]; exact (cel_same (u := u) (v := setA u a i v) rfl (fun _ => rfl) (fun _ => rfl) rfl (by funext j; simp [setA, mA, hb]) rfl rfl).symm
theorem up_B {G : Ctx} {u : Mem} {a i : Nat} {v : Option Nat} {e : va_E} (h : cel G (setB u a i v) a = e) (b : Nat) : va_up (cel G u) a e b = cel G (setB u a i v) b := by
  by_cases hb : b = a
  · subst hb; rw [va_up_self]; exact h.symm
  · rw [va_up_ne _ _ hb]; exact (cel_same (u := u) (v := setB u a i v) rfl (fun _ => rfl) (fun _ => rfl) rfl rfl (by funext j; simp [setB, mB, hb]) rfl).symm
theorem up_C {G : Ctx} {u : Mem} {a : Nat} {f : Nat → Option Nat} {e : va_E} (h : cel G (setC u a f) a = e) (b : Nat) : va_up (cel G u) a e b = cel G (setC u a f) b := by
  by_cases hb : b = a
  · subst hb; rw [va_up_self]; exact h.symm
  · rw [va_up_ne _ _ hb]; exact (cel_same (u := u) (v := setC u a f) rfl (fun _ => rfl) (fun _ => rfl) rfl rfl (by simp [setC, mB, hb]) rfl).symm
theorem up_J {G : Ctx} {u : Mem} {a i : Nat} {v : Int64} {e : va_E} (h : cel G (setJ u a i v) a = e) (b : Nat) : va_up (cel G u) a e b = cel G (setJ u a i v) b := by
  by_cases hb : b = a
  · subst hb; rw [va_up_self]; exact h.symm
  · rw [va_up_ne _ _ hb]; exact (cel_same (u := u) (v := setJ u a i v) rfl (fun _ => rfl) (fun _ => rfl) rfl rfl rfl (by funext j; simp [setJ, mJ, hb])).symm
theorem up_N {G : Ctx} {u : Mem} {q k n : Nat} {e : va_E} (h : cel G (mNew u q k n) q = e) (b : Nat) : va_up (cel G u) q e b = cel G (mNew u q k n) b := by
  by_cases hb : b = q
  · subst hb; rw [va_up_self]; exact h.symm
  · rw [va_up_ne _ _ hb]; exact (cel_same (u := u) (v := mNew u q k n) (by simp [mNew, mK, hb]) (fun g => by simp [mNew, mI, hb]) (fun g => by simp [mNew, mR, hb]) (by simp [mNew, mN, hb]) (by simp [mNew, mA, hb]) (by simp [mNew, mB, hb]) (by simp [mNew, mJ, hb])).symm
abbrev wld (G : Ctx) (u : Mem) : va_W := va_pl (mL u) (cel G u)
def tyl (G : Ctx) : List (ClassId × FieldType) := [(G.2.1 0, .int), (G.2.1 1, .int), (G.2.1 2, .int), (G.2.1 3, .object "LanternDesk$Street"), (G.2.1 4, .object "LanternDesk$Escort"), (G.2.1 5, .object "java/lang/Object")]
def Wp (G : Ctx) (u : Mem) (H : Heap) : Prop := va_P G.1 vwCl (wld G u) H ∧ va_D (Ab G) (wld G u)
def Wd (G : Ctx) (u : Mem) (s : State) (H : Heap) (locs : List Loc) : Prop := Wp G u H ∧ va_S (Ab G) s.heap H locs
theorem wAt {G : Ctx} {u : Mem} {a : Nat} (ha : a ∈ mL u) {e : va_E} (he : cel G u a = e) : ∃ k : Nat, (wld G u)[k]? = some (a, e) := by
  obtain ⟨k, hk⟩ := va_pl_get (X := []) (f := cel G u) ha
  rw [he] at hk
  exact ⟨k, hk⟩
theorem wSet {G : Ctx} {u v : Mem} {A : Nat → Prop} (hD : va_D A (wld G u)) {a k : Nat} {e0 e : va_E} (ha : a ∈ mL u) (hk : (wld G u)[k]? = some (a, e0)) (he0 : cel G u a = e0) (hL : mL v = mL u) (hup : ∀ b, va_up (cel G u) a e b = cel G v b) : (wld G u).set k (a, e) = wld G v := by
  subst he0
  have h1 := va_pl_set (X := []) (f := cel G u) (e := e) hD ha hk
  refine h1.trans ?_
  show va_pl (mL u) _ = va_pl (mL v) _
  rw [hL]
  exact va_pl_congr hup
theorem wPush {G : Ctx} {u : Mem} {q k n : Nat} {e : va_E} (hq : q ∉ mL u) (he : cel G (mNew u q k n) q = e) : wld G u ++ [(q, e)] = wld G (mNew u q k n) := by
  rw [wld, va_pl_push hq]
  exact va_pl_congr (up_N he)
theorem wFresh {G : Ctx} {u : Mem} {A : Nat → Prop} {q : Nat} {e : va_E} (hD : va_D A (wld G u ++ [(q, e)])) : q ∉ mL u := va_pl_fresh2 (X := []) hD

abbrev NF : List (String × Nat × String × String × String × String) := [("LanternDesk", 62, "LanternDesk$Street", "purse", "I", "LanternDesk"), ("LanternDesk", 73, "LanternDesk$Street", "price", "I", "LanternDesk"), ("LanternDesk", 76, "LanternDesk$Street", "hasCamera", "Z", "LanternDesk"), ("LanternDesk", 180, "LanternDesk$Escort", "number", "I", "LanternDesk"), ("LanternDesk", 107, "LanternDesk$Escort", "street", "I", "LanternDesk"), ("LanternDesk", 168, "LanternDesk$Escort", "rank", "I", "LanternDesk"), ("LanternDesk", 102, "LanternDesk$Escort", "isFree", "Z", "LanternDesk"), ("LanternDesk", 241, "LanternDesk$Walk", "number", "I", "LanternDesk"), ("LanternDesk", 213, "LanternDesk$Walk", "from", "I", "LanternDesk"), ("LanternDesk", 235, "LanternDesk$Walk", "to", "I", "LanternDesk"), ("LanternDesk", 158, "LanternDesk$Walk", "state", "I", "LanternDesk"), ("LanternDesk", 154, "LanternDesk$Walk", "escort", "LLanternDesk$Escort;", "LanternDesk"), ("LanternDesk", 183, "LanternDesk$Walk", "minutesInDark", "I", "LanternDesk"), ("LanternDesk", 163, "LanternDesk$Walk", "isJudged", "Z", "LanternDesk"), ("LanternDesk$Album", 45, "LanternDesk$Picture", "erasedOn", "I", "LanternDesk")]
abbrev NM : List (String × Nat × MethodName × String) := [("LanternDesk", 30, ⟨"LanternDesk$Album", "<init>", "()V"⟩, "LanternDesk")]
abbrev NX : List (String × String) := [("java/lang/IndexOutOfBoundsException", "java/lang/IndexOutOfBoundsException"), ("java/lang/IllegalArgumentException", "java/lang/IllegalArgumentException"), ("java/lang/IllegalStateException", "java/lang/IllegalStateException"), ("LanternDesk$Walk", "java/lang/Object"), ("LanternDesk$Picture", "java/lang/Object")]
abbrev NO : List (String × String) := []
abbrev SL : List (String × Nat × String) := [("LanternDesk", 52, "no such street"), ("LanternDesk", 110, "the walk goes nowhere"), ("LanternDesk", 115, "no more walks can be asked for"), ("LanternDesk", 126, "minutes out of range"), ("LanternDesk", 128, "the night would be too long"), ("LanternDesk", 96, "no such escort"), ("LanternDesk", 105, "the escort is not free"), ("LanternDesk", 140, "a walk is not over"), ("LanternDesk", 142, "it is the last day"), ("LanternDesk", 152, "no such walk"), ("LanternDesk", 161, "the walk is not over"), ("LanternDesk", 166, "the walk was judged before"), ("LanternDesk", 59, "coins out of range"), ("LanternDesk", 68, "the purse would be too full"), ("LanternDesk", 71, "price out of range"), ("LanternDesk", 80, "no such voter"), ("LanternDesk", 82, "days out of range")]
abbrev AOL : List String := ["LanternDesk$Street", "LanternDesk$Escort", "java/lang/Object"]
abbrev ND : List MethodName := [⟨"java/lang/RuntimeException", "<init>", "()V"⟩, ⟨"java/lang/RuntimeException", "<init>", "(Ljava/lang/String;)V"⟩, ⟨"java/lang/Exception", "<init>", "()V"⟩, ⟨"java/lang/Exception", "<init>", "(Ljava/lang/String;)V"⟩, ⟨"java/lang/Throwable", "<init>", "()V"⟩, ⟨"java/lang/Throwable", "<init>", "(Ljava/lang/String;)V"⟩, ⟨"java/lang/Object", "getClass", "()Ljava/lang/Class;"⟩]
def yGetClass : MethodName := ⟨"java/lang/Object", "getClass", "()Ljava/lang/Class;"⟩
/-- what a state of the run gives, beside the words: classes, nest mates' links, constants, statics -/
def Kf (G : Ctx) (U : State) (H : Heap) : Prop :=
  va_K G.1 vwCl (tyl G) U ∧ (∀ q ∈ NF, va_Nw (.fieldLinkNest q.1 q.2.1 q.2.2.1 q.2.2.2.1 q.2.2.2.2.1 q.2.2.2.2.2) U) ∧ (∀ q ∈ NM, va_Nw (.methodLinkNest q.1 q.2.1 q.2.2.1 q.2.2.2) U) ∧ (∀ q ∈ NX, va_Nw (.castable q.1 q.2) U) ∧ (∀ z ∈ ND, va_Nw (.declares z) U) ∧ (∀ q ∈ NO, va_Nc q.1 q.2 U) ∧
  (∀ q ∈ SL, ∃ a : Nat, vk_R q.1 q.2.1 q.2.2 a U) ∧ (∀ C ∈ AOL, va_AO C U) ∧ va_Mi "[Ljava/lang/Object;" (G.2.2 2) U ∧
  va_Z "java/util/ArrayList" "DEFAULTCAPACITY_EMPTY_ELEMENTDATA" "[Ljava/lang/Object;" (.ref (G.2.2 1)) (Ab G) U H ∧ va_T (.object "java/lang/Object") (G.2.2 1) 0 (fun _ => .null) (Ab G) U H ∧
  vx_Zq Bundle.tN "UNASSIGNED_STACK" Bundle.steD (Ab G) U H ∧ vx_Zq Bundle.tN "SUPPRESSED_SENTINEL" Bundle.listD (Ab G) U H ∧ G.2.2 0 ≤ H.size ∧ va_X (G.2.2 3) (G.2.2 4) (fun j => nI (G.2.2 (5 + j))) U H ∧ G.2.2 3 < G.2.2 0
theorem Kf.moved {G : Ctx} {s U : State} {H H1 : Heap} (h : Kf G s H) (hW : s.WarmedH U.vm) (hz : H.size ≤ H1.size) (hk : ∀ a : Nat, a < H.size → ¬ Ab G a → H1[a]? = H[a]?) : Kf G U H1 := by
  obtain ⟨h1, h2, h3, h4, h5, h6, h7, h8, h9, h10, h11, h12, h13, h14, h15, h16⟩ := h
  refine ⟨h1.moved hW.alike, fun q hq => va_Nw.warmF hW (h2 q hq), fun q hq => va_Nw.warmM hW (h3 q hq), fun q hq => va_Nw.warmC hW (h4 q hq), fun z hz => va_Nw.warmD hW (h5 z hz), fun q hq => (h6 q hq).moved hW.alike, fun q hq => ?_, fun C hC => (h8 C hC).moved hW.alike, h9.moved hW.alike, (h10.moved hW.alike).kept hk, (h11.moved hW.alike).kept hk, (h12.moved hW.alike).kept hk, (h13.moved hW.alike).kept hk, Nat.le_trans h14 hz, (h15.moved hW.alike).kept (hk _ (Nat.lt_of_lt_of_le h16 h14) (Nat.not_le.mpr h16)), h16⟩
  obtain ⟨a, ha⟩ := h7 q hq
  exact ⟨a, ha.warm hW⟩
/-- a method's body at work: the machine, the code, the words, the facts -/
def Fx (p : Program) (l : Launch) (s : State) (m : MethodId) (args : Array Value) (meth : Method) (c : Code) (cc : ByteArray) (nL : Nat) (own : String) (G : Ctx) : Prop :=
  CallFix p m c cc nL s args wsL_law own ∧ Kf G s s.heap ∧ meth.locks = false ∧ l.stackTraces = false
theorem Fx.hA {p : Program} {l : Launch} {s : State} {m : MethodId} {args : Array Value} {meth : Method} {c : Code} {cc : ByteArray} {nL : Nat} {own : String} {G : Ctx} (F : Fx p l s m args meth c cc nL own G) : ∀ q, s.heap.size ≤ q → Ab G q := fun _ h => Nat.le_trans F.2.1.2.2.2.2.2.2.2.2.2.2.2.2.2.1 h
theorem Wd.kf {p : Program} {l : Launch} {s : State} {m : MethodId} {args : Array Value} {meth : Method} {c : Code} {cc : ByteArray} {nL : Nat} {own : String} {G : Ctx} {u : Mem} {H : Heap} {locs : List Loc} (hW : Wd G u s H locs) (F : Fx p l s m args meth c cc nL own G) {U : State} (hU : U.heap = H) (hw : s.WarmedH U.vm) : Kf G U U.heap := by
  rw [hU]
  exact F.2.1.moved hw hW.2.1 hW.2.2.1
theorem ra_eq {s : State} {c1 c2 : ClassId} {ty : FieldType} (h1 : va_RA s c1 ty) (h2 : va_RA s c2 ty) : c1 = c2 := by
  cases ty with
  | object C =>
    obtain ⟨_, _, _, _, _, a⟩ := h1
    obtain ⟨_, _, _, _, _, b⟩ := h2
    exact Option.some.inj (a.symm.trans b)
  | _ => exact Option.some.inj (Eq.trans (Eq.symm h1) h2)
theorem tya_eq {G : Ctx} {D : va_G} {s : State} {cl : List vw_C} {cA : ClassId} {ty : FieldType} {j : Nat} (hK : va_K D cl (tyl G ++ [(cA, ty)]) s) (hj : (tyl G)[j]? = some (G.2.1 j, ty)) : cA = G.2.1 j := by
  have h1 := (hK.2 6 (cA, ty) (by rfl)).2
  have h2 := (hK.2 j (G.2.1 j, ty) (by rw [List.getElem?_append_left (List.getElem?_eq_some_iff.mp hj).1]; exact hj)).2
  exact ra_eq h1 h2
theorem va_rf_cat (r : Option Nat) : (va_rf r).category = 1 := by cases r <;> rfl
end
section
section RWS
variable {p : Program} {l : Launch} {e : Env} {R : Room} {s : State} {m : MethodId} {args : Array Value} {below : List Frame} {meth : Method} {c : Code} {H : Heap} {locs : List Loc} {cells slots : Nat} {Q : State → Prop}
variable {cc : ByteArray} {pc nL : Nat} {ls : Array Slot} {rest : List Value} {own : String} {G : Ctx} {u : Mem} {a index : Nat}
theorem rGet (F : Fx p l s m args meth c cc nL own G) (hW : Wd G u s H locs) {ci k N : Nat} {C ref : String} {T : u_T} {fs : List Value} {v : Value} (hin : ∀ w ∈ u_ws C T N, w ∈ wsL_law) (ha : a ∈ mL u) (he : cel G u a = .inr (ci, fs)) (hc : vwCl[ci]? = some (C, T, N)) (hk : k < N) (hl : Cond.fieldLink own index ref (T k).2.1 (T k).2.2.1 ∈ wsL_law) (hsame : ∀ x, s.fieldFound? (T k).1 (T k).2.1 (T k).2.2.1 = some x → s.fieldFound? ref (T k).2.1 (T k).2.2.1 = some x) (hv : fs[k]? = some v) (hd : decode cc pc = .ok (.getfield index, 3)) (kk : W p l e R s m args below meth c H locs cells slots Q (F0 m (pc + 3) ls (v :: rest))) : W p l e R s m args below meth c H locs cells slots Q (F0 m pc ls (.ref a :: rest)) := by
  obtain ⟨q, hq⟩ := wAt ha he
  exact va_get F.1.1 F.1.2.1 F.1.2.2.2.2 hin F.1.2.2.2.1 F.2.1.1 hW.1.1 q hq hc k hk (F.1.2.2.2.2 _ hl) hsame hv hd kk
theorem rGetN (F : Fx p l s m args meth c cc nL own G) (hW : Wd G u s H locs) {ci k N : Nat} {C host : String} {T : u_T} {fs : List Value} {v : Value} (hin : ∀ w ∈ u_ws C T N, w ∈ wsL_law) (ha : a ∈ mL u) (he : cel G u a = .inr (ci, fs)) (hc : vwCl[ci]? = some (C, T, N)) (hk : k < N) (hl : (own, index, C, (T k).2.1, (T k).2.2.1, host) ∈ NF) (h0 : (T k).1 = C) (hv : fs[k]? = some v) (hd : decode cc pc = .ok (.getfield index, 3)) (kk : W p l e R s m args below meth c H locs cells slots Q (F0 m (pc + 3) ls (v :: rest))) : W p l e R s m args below meth c H locs cells slots Q (F0 m pc ls (.ref a :: rest)) := by
  obtain ⟨q, hq⟩ := wAt ha he
  exact va_getN F.1.1 F.1.2.1 F.1.2.2.2.2 hin F.1.2.2.2.1 F.2.1.1 hW.1.1 q hq hc k hk (va_Nw.use rfl (F.2.1.2.1 _ hl)) (fun x h => by rw [h0] at h; exact h) hv hd kk
theorem rPut (F : Fx p l s m args meth c cc nL own G) (hW : Wd G u s H locs) {ci k N : Nat} {C ref : String} {T : u_T} {fs : List Value} {v : Value} {ty : FieldType} {ty0 : Nat → FieldType} {u' : Mem} (hin : ∀ w ∈ u_ws C T N, w ∈ wsL_law) (hty : ∀ k, k < N → parseFieldDescriptor (T k).2.2.1 = some (ty0 k)) (hnm : ∀ a, a < N → ∀ b, b < N → a ≠ b → (T a).2.1 ≠ (T b).2.1) (ha : a ∈ mL u) (he : cel G u a = .inr (ci, fs)) (hc : vwCl[ci]? = some (C, T, N)) (hk : k < N) (hl : Cond.fieldLink own index ref (T k).2.1 (T k).2.2.1 ∈ wsL_law) (hsame : ∀ x, s.fieldFound? (T k).1 (T k).2.1 (T k).2.2.1 = some x → s.fieldFound? ref (T k).2.1 (T k).2.2.1 = some x) (hfin : (T k).2.2.2 = false) (hd0 : parseFieldDescriptor (T k).2.2.1 = some ty) (hn : narrow ty v = v) (hfit : fits ty v = true) (hlen : k < fs.length) (hL : mL u' = mL u) (hup : ∀ b, va_up (cel G u) a (.inr (ci, fs.set k v)) b = cel G u' b) (hd : decode cc pc = .ok (.putfield index, 3)) (kk : ∀ (H1 : Heap) (locs1 : List Loc), Wd G u' s H1 locs1 → W p l e R s m args below meth c H1 locs1 cells slots Q (F0 m (pc + 3) ls rest)) : W p l e R s m args below meth c H locs cells slots Q (F0 m pc ls (v :: .ref a :: rest)) := by
  obtain ⟨q, hq⟩ := wAt ha he
  have e1 := wSet hW.1.2 ha hq he hL hup
  exact va_put F.1.1 F.1.2.1 F.1.2.2.2.2 hin ty0 hty hnm F.1.2.2.2.1 F.2.1.1 hW.1.1 hW.1.2 hW.2 q hq hc k hk (F.1.2.2.2.2 _ hl) hsame hfin hd0 hn hfit hlen hd (fun H1 locs1 h1 h2 h3 => kk H1 locs1 ⟨⟨by rw [← e1]; exact h1, by rw [← e1]; exact h2⟩, h3⟩)
theorem rPutF (F : Fx p l s m args meth c cc nL own G) (hW : Wd G u s H locs) {ci k N : Nat} {C : String} {T : u_T} {fs : List Value} {v : Value} {ty : FieldType} {ty0 : Nat → FieldType} {u' : Mem} (hin : ∀ w ∈ u_ws C T N, w ∈ wsL_law) (hty : ∀ k, k < N → parseFieldDescriptor (T k).2.2.1 = some (ty0 k)) (hnm : ∀ a, a < N → ∀ b, b < N → a ≠ b → (T a).2.1 ≠ (T b).2.1) (ha : a ∈ mL u) (he : cel G u a = .inr (ci, fs)) (hc : vwCl[ci]? = some (C, T, N)) (hk : k < N) (hl : Cond.fieldLink own index C (T k).2.1 (T k).2.2.1 ∈ wsL_law) (h0 : (T k).1 = C) (hown : own = C) (hfin : (T k).2.2.2 = true) (hinit : meth.name = "<init>") (hd0 : parseFieldDescriptor (T k).2.2.1 = some ty) (hn : narrow ty v = v) (hfit : fits ty v = true) (hlen : k < fs.length) (hL : mL u' = mL u) (hup : ∀ b, va_up (cel G u) a (.inr (ci, fs.set k v)) b = cel G u' b) (hd : decode cc pc = .ok (.putfield index, 3)) (kk : ∀ (H1 : Heap) (locs1 : List Loc), Wd G u' s H1 locs1 → W p l e R s m args below meth c H1 locs1 cells slots Q (F0 m (pc + 3) ls rest)) : W p l e R s m args below meth c H locs cells slots Q (F0 m pc ls (v :: .ref a :: rest)) := by
  subst hown
  obtain ⟨q, hq⟩ := wAt ha he
  have e1 := wSet hW.1.2 ha hq he hL hup
  exact va_putF F.1.1 F.1.2.1 F.1.2.2.2.2 hin ty0 hty hnm F.1.2.2.2.1 F.2.1.1 hW.1.1 hW.1.2 hW.2 q hq hc k hk (F.1.2.2.2.2 _ hl) (fun x h => by rw [h0] at h; exact h) hfin hinit h0 hd0 hn hfit hlen hd (fun H1 locs1 h1 h2 h3 => kk H1 locs1 ⟨⟨by rw [← e1]; exact h1, by rw [← e1]; exact h2⟩, h3⟩)
theorem rPutN (F : Fx p l s m args meth c cc nL own G) (hW : Wd G u s H locs) {ci k N : Nat} {C host : String} {T : u_T} {fs : List Value} {v : Value} {ty : FieldType} {ty0 : Nat → FieldType} {u' : Mem} (hin : ∀ w ∈ u_ws C T N, w ∈ wsL_law) (hty : ∀ k, k < N → parseFieldDescriptor (T k).2.2.1 = some (ty0 k)) (hnm : ∀ a, a < N → ∀ b, b < N → a ≠ b → (T a).2.1 ≠ (T b).2.1) (ha : a ∈ mL u) (he : cel G u a = .inr (ci, fs)) (hc : vwCl[ci]? = some (C, T, N)) (hk : k < N) (hl : (own, index, C, (T k).2.1, (T k).2.2.1, host) ∈ NF) (h0 : (T k).1 = C) (hfin : (T k).2.2.2 = false) (hd0 : parseFieldDescriptor (T k).2.2.1 = some ty) (hn : narrow ty v = v) (hfit : fits ty v = true) (hlen : k < fs.length) (hL : mL u' = mL u) (hup : ∀ b, va_up (cel G u) a (.inr (ci, fs.set k v)) b = cel G u' b) (hd : decode cc pc = .ok (.putfield index, 3)) (kk : ∀ (H1 : Heap) (locs1 : List Loc), Wd G u' s H1 locs1 → W p l e R s m args below meth c H1 locs1 cells slots Q (F0 m (pc + 3) ls rest)) : W p l e R s m args below meth c H locs cells slots Q (F0 m pc ls (v :: .ref a :: rest)) := by
  obtain ⟨q, hq⟩ := wAt ha he
  have e1 := wSet hW.1.2 ha hq he hL hup
  exact va_putN F.1.1 F.1.2.1 F.1.2.2.2.2 hin ty0 hty hnm F.1.2.2.2.1 F.2.1.1 hW.1.1 hW.1.2 hW.2 q hq hc k hk (va_Nw.use rfl (F.2.1.2.1 _ hl)) (fun x h => by rw [h0] at h; exact h) hfin hd0 hn hfit hlen hd (fun H1 locs1 h1 h2 h3 => kk H1 locs1 ⟨⟨by rw [← e1]; exact h1, by rw [← e1]; exact h2⟩, h3⟩)
/-! int rows -/
theorem rIald (F : Fx p l s m args meth c cc nL own G) (hW : Wd G u s H locs) {i : Int32} (h : OB u a 8) (hin : vp_in i (mN u a)) (hd : decode cc pc = .ok (.iaload, 1)) (kk : W p l e R s m args below meth c H locs cells slots Q (F0 m (pc + 1) ls (.int (mA u a i.toNatClampNeg) :: rest))) : W p l e R s m args below meth c H locs cells slots Q (F0 m pc ls (.int i :: .ref a :: rest)) := by
  obtain ⟨q, hq⟩ := wAt h.1 (cel_8 (G := G) h.2)
  exact va_iald F.1.1 F.1.2.1 F.2.1.1 hW.1.1 q 0 hq rfl hin hd kk
theorem rQald_11 (F : Fx p l s m args meth c cc nL own G) (hW : Wd G u s H locs) {i : Int32} (h : OB u a 11) (hin : vp_in i (mN u a)) (hd : decode cc pc = .ok (.aaload, 1)) (kk : W p l e R s m args below meth c H locs cells slots Q (F0 m (pc + 1) ls (va_rf (mB u a i.toNatClampNeg) :: rest))) : W p l e R s m args below meth c H locs cells slots Q (F0 m pc ls (.int i :: .ref a :: rest)) := by
  obtain ⟨q, hq⟩ := wAt h.1 (cel_11 (G := G) h.2)
  exact va_aldq F.1.1 F.1.2.1 F.2.1.1 hW.1.1 q 3 hq rfl hin hd kk
theorem rQald_12 (F : Fx p l s m args meth c cc nL own G) (hW : Wd G u s H locs) {i : Int32} (h : OB u a 12) (hin : vp_in i (mN u a)) (hd : decode cc pc = .ok (.aaload, 1)) (kk : W p l e R s m args below meth c H locs cells slots Q (F0 m (pc + 1) ls (va_rf (mB u a i.toNatClampNeg) :: rest))) : W p l e R s m args below meth c H locs cells slots Q (F0 m pc ls (.int i :: .ref a :: rest)) := by
  obtain ⟨q, hq⟩ := wAt h.1 (cel_12 (G := G) h.2)
  exact va_aldq F.1.1 F.1.2.1 F.2.1.1 hW.1.1 q 4 hq rfl hin hd kk
theorem rQald_13 (F : Fx p l s m args meth c cc nL own G) (hW : Wd G u s H locs) {i : Int32} (h : OB u a 13) (hin : vp_in i (mN u a)) (hd : decode cc pc = .ok (.aaload, 1)) (kk : W p l e R s m args below meth c H locs cells slots Q (F0 m (pc + 1) ls (va_rf (mB u a i.toNatClampNeg) :: rest))) : W p l e R s m args below meth c H locs cells slots Q (F0 m pc ls (.int i :: .ref a :: rest)) := by
  obtain ⟨q, hq⟩ := wAt h.1 (cel_13 (G := G) h.2)
  exact va_aldq F.1.1 F.1.2.1 F.2.1.1 hW.1.1 q 5 hq rfl hin hd kk
theorem nar_Z {x : Int32} (h : x = 0 ∨ x = 1) : vp_nar .boolean x = x := by rcases h with rfl | rfl <;> rfl
theorem narZ {x : Int32} (h : x = 0 ∨ x = 1) : narrow .boolean (.int x) = .int x := by rcases h with rfl | rfl <;> rfl
theorem fitZ {x : Int32} (h : x = 0 ∨ x = 1) : fits .boolean (.int x) = true := by rcases h with rfl | rfl <;> rfl
theorem se_A {G : Ctx} {u : Mem} {a i : Nat} {x : Int32} {k j : Nat} (hc : ∀ v : Mem, mK v a = k → cel G v a = .inl (G.2.1 j, mN v a, .inl (mA v a))) (h : mK u a = k) : cel G (setA u a i x) a = .inl (G.2.1 j, mN u a, .inl (upd (mA u a) i x)) := by
  rw [hc (setA u a i x) h]
  have e : mA (setA u a i x) a = upd (mA u a) i x := by funext q; simp [setA, mA, upd]
  rw [e]; rfl
theorem se_B {G : Ctx} {u : Mem} {a i : Nat} {x : Option Nat} {k j : Nat} (hc : ∀ v : Mem, mK v a = k → cel G v a = .inl (G.2.1 j, mN v a, .inr (.inr (.inr (.inr (mB v a)))))) (h : mK u a = k) : cel G (setB u a i x) a = .inl (G.2.1 j, mN u a, .inr (.inr (.inr (.inr (va_up (mB u a) i x))))) := by
  rw [hc (setB u a i x) h]
  have e : mB (setB u a i x) a = va_up (mB u a) i x := by funext q; simp [setB, mB, va_up]
  rw [e]; rfl
theorem se_C {G : Ctx} {u : Mem} {a : Nat} {f : Nat → Option Nat} {k j : Nat} (hc : ∀ v : Mem, mK v a = k → cel G v a = .inl (G.2.1 j, mN v a, .inr (.inr (.inr (.inr (mB v a)))))) (h : mK u a = k) : cel G (setC u a f) a = .inl (G.2.1 j, mN u a, .inr (.inr (.inr (.inr f)))) := by
  rw [hc (setC u a f) h]
  have e : mB (setC u a f) a = f := by simp [setC, mB]
  rw [e]; rfl
theorem se_J {G : Ctx} {u : Mem} {a i : Nat} {x : Int64} (h : mK u a = 10) : cel G (setJ u a i x) a = .inl (G.2.1 2, mN u a, .inr (.inl (vp_updL (mJ u a) i x))) := by
  rw [cel_10 (u := setJ u a i x) h]
  have e : mJ (setJ u a i x) a = vp_updL (mJ u a) i x := by funext q; simp [setJ, mJ, vp_updL]
  rw [e]; rfl
theorem rIast (F : Fx p l s m args meth c cc nL own G) (hW : Wd G u s H locs) {i x : Int32} (h : OB u a 8) (hin : vp_in i (mN u a)) (hd : decode cc pc = .ok (.iastore, 1)) (kk : ∀ (H1 : Heap) (locs1 : List Loc), Wd G (setA u a i.toNatClampNeg x) s H1 locs1 → W p l e R s m args below meth c H1 locs1 cells slots Q (F0 m (pc + 1) ls rest)) : W p l e R s m args below meth c H locs cells slots Q (F0 m pc ls (.int x :: .int i :: .ref a :: rest)) := by
  obtain ⟨q, hq⟩ := wAt h.1 (cel_8 (G := G) h.2)
  have e1 := wSet (v := setA u a i.toNatClampNeg x) hW.1.2 h.1 hq (cel_8 h.2) rfl (up_A (se_A (fun _ => cel_8) h.2))
  exact va_iast F.1.1 F.1.2.1 F.2.1.1 hW.1.1 hW.1.2 hW.2 q 0 hq rfl hin hd (fun H1 locs1 h1 h2 h3 => kk H1 locs1 ⟨⟨by rw [← e1]; exact h1, by rw [← e1]; exact h2⟩, h3⟩)
theorem rQast_11 (F : Fx p l s m args meth c cc nL own G) (hW : Wd G u s H locs) {i : Int32} {v : Nat} (h : OB u a 11) (hin : vp_in i (mN u a)) (hv : OB u v 4) (hd : decode cc pc = .ok (.aastore, 1)) (kk : ∀ (H1 : Heap) (locs1 : List Loc), Wd G (setB u a i.toNatClampNeg (some v)) s H1 locs1 → W p l e R s m args below meth c H1 locs1 cells slots Q (F0 m (pc + 1) ls rest)) : W p l e R s m args below meth c H locs cells slots Q (F0 m pc ls (.ref v :: .int i :: .ref a :: rest)) := by
  obtain ⟨q, hq⟩ := wAt h.1 (cel_11 (G := G) h.2)
  obtain ⟨q2, hq2⟩ := wAt hv.1 (cel_4 (G := G) hv.2)
  have e1 := wSet (v := setB u a i.toNatClampNeg (some v)) hW.1.2 h.1 hq (cel_11 h.2) rfl (up_B (se_B (fun _ => cel_11) h.2))
  exact va_astq F.1.1 F.1.2.1 F.2.1.1 hW.1.1 hW.1.2 hW.2 q 3 q2 4 hq rfl hq2 rfl hin hd (fun H1 locs1 h1 h2 h3 => kk H1 locs1 ⟨⟨by rw [← e1]; exact h1, by rw [← e1]; exact h2⟩, h3⟩)
theorem rQast_12 (F : Fx p l s m args meth c cc nL own G) (hW : Wd G u s H locs) {i : Int32} {v : Nat} (h : OB u a 12) (hin : vp_in i (mN u a)) (hv : OB u v 2) (hd : decode cc pc = .ok (.aastore, 1)) (kk : ∀ (H1 : Heap) (locs1 : List Loc), Wd G (setB u a i.toNatClampNeg (some v)) s H1 locs1 → W p l e R s m args below meth c H1 locs1 cells slots Q (F0 m (pc + 1) ls rest)) : W p l e R s m args below meth c H locs cells slots Q (F0 m pc ls (.ref v :: .int i :: .ref a :: rest)) := by
  obtain ⟨q, hq⟩ := wAt h.1 (cel_12 (G := G) h.2)
  obtain ⟨q2, hq2⟩ := wAt hv.1 (cel_2 (G := G) hv.2)
  have e1 := wSet (v := setB u a i.toNatClampNeg (some v)) hW.1.2 h.1 hq (cel_12 h.2) rfl (up_B (se_B (fun _ => cel_12) h.2))
  exact va_astq F.1.1 F.1.2.1 F.2.1.1 hW.1.1 hW.1.2 hW.2 q 4 q2 2 hq rfl hq2 rfl hin hd (fun H1 locs1 h1 h2 h3 => kk H1 locs1 ⟨⟨by rw [← e1]; exact h1, by rw [← e1]; exact h2⟩, h3⟩)
theorem rQast_13 (F : Fx p l s m args meth c cc nL own G) (hW : Wd G u s H locs) {i : Int32} {v : Nat} (h : OB u a 13) (hin : vp_in i (mN u a)) (hv : OB u v 5 ∨ OB u v 3) (hd : decode cc pc = .ok (.aastore, 1)) (kk : ∀ (H1 : Heap) (locs1 : List Loc), Wd G (setB u a i.toNatClampNeg (some v)) s H1 locs1 → W p l e R s m args below meth c H1 locs1 cells slots Q (F0 m (pc + 1) ls rest)) : W p l e R s m args below meth c H locs cells slots Q (F0 m pc ls (.ref v :: .int i :: .ref a :: rest)) := by
  obtain ⟨q, hq⟩ := wAt h.1 (cel_13 (G := G) h.2)
  have e1 := wSet (v := setB u a i.toNatClampNeg (some v)) hW.1.2 h.1 hq (cel_13 h.2) rfl (up_B (se_B (fun _ => cel_13) h.2))
  rcases hv with hv | hv
  · obtain ⟨q2, hq2⟩ := wAt hv.1 (cel_5 (G := G) hv.2)
    exact va_astqO F.1.1 F.1.2.1 F.2.1.1 hW.1.1 hW.1.2 hW.2 q 5 q2 5 hq rfl (F.2.1.2.2.2.1 ("LanternDesk$Walk", "java/lang/Object") (List.mem_of_getElem? (i := 3) rfl)) hq2 rfl hin hd (fun H1 locs1 h1 h2 h3 => kk H1 locs1 ⟨⟨by rw [← e1]; exact h1, by rw [← e1]; exact h2⟩, h3⟩)
  · obtain ⟨q2, hq2⟩ := wAt hv.1 (cel_3 (G := G) hv.2)
    exact va_astqO F.1.1 F.1.2.1 F.2.1.1 hW.1.1 hW.1.2 hW.2 q 5 q2 3 hq rfl (F.2.1.2.2.2.1 ("LanternDesk$Picture", "java/lang/Object") (List.mem_of_getElem? (i := 4) rfl)) hq2 rfl hin hd (fun H1 locs1 h1 h2 h3 => kk H1 locs1 ⟨⟨by rw [← e1]; exact h1, by rw [← e1]; exact h2⟩, h3⟩)
theorem rQastN (F : Fx p l s m args meth c cc nL own G) (hW : Wd G u s H locs) {i : Int32} (h : OB u a 13) (hin : vp_in i (mN u a)) (hd : decode cc pc = .ok (.aastore, 1)) (kk : ∀ (H1 : Heap) (locs1 : List Loc), Wd G (setB u a i.toNatClampNeg none) s H1 locs1 → W p l e R s m args below meth c H1 locs1 cells slots Q (F0 m (pc + 1) ls rest)) : W p l e R s m args below meth c H locs cells slots Q (F0 m pc ls (.null :: .int i :: .ref a :: rest)) := by
  obtain ⟨q, hq⟩ := wAt h.1 (cel_13 (G := G) h.2)
  have e1 := wSet (v := setB u a i.toNatClampNeg none) hW.1.2 h.1 hq (cel_13 h.2) rfl (up_B (se_B (fun _ => cel_13) h.2))
  exact va_astqN F.1.1 F.1.2.1 F.2.1.1 hW.1.1 hW.1.2 hW.2 q 5 hq rfl hin hd (fun H1 locs1 h1 h2 h3 => kk H1 locs1 ⟨⟨by rw [← e1]; exact h1, by rw [← e1]; exact h2⟩, h3⟩)
theorem rCopy (F : Fx p l s m args meth c cc nL own G) (hW : Wd G u s H locs) {a1 : Nat} {sp dp n : Int32} {ci : Nat} (hml : ls.size = nL) (q1 : Cond.methodLink own index arraycopyName ∈ wsL_law) (h0 : OB u a 13) (h1 : OB u a1 13) (g1 : ¬ sp < 0) (g2 : ¬ dp < 0) (g3 : ¬ n < 0) (g4 : sp.toNatClampNeg + n.toNatClampNeg ≤ mN u a) (g5 : dp.toNatClampNeg + n.toNatClampNeg ≤ mN u a1) (hci : ci = 5 ∨ ci = 3) (hel : ∀ i : Nat, i < n.toNatClampNeg → ∀ y : Nat, mB u a (sp.toNatClampNeg + i) = some y → OB u y ci) (hfr : 1 ≤ R.frames) (hlo : (rest.map fun v => v.category).sum + (nativeFrameWords "java/lang/System" "arraycopy" 5 + 11) ≤ R.locals) (hd : decode cc pc = .ok (.invokestatic index, 3)) (kk : ∀ (H1 : Heap) (locs1 : List Loc), Wd G (setC u a1 (va_cpy (mB u a) (mB u a1) sp.toNatClampNeg dp.toNatClampNeg n.toNatClampNeg)) s H1 locs1 → W p l e R s m args below meth c H1 locs1 cells slots Q (F0 m (pc + 3) ls rest)) : W p l e R s m args below meth c H locs cells slots Q (F0 m pc ls (.int n :: .int dp :: .ref a1 :: .int sp :: .ref a :: rest)) := by
  obtain ⟨k0, hk0⟩ := wAt h0.1 (cel_13 (G := G) h0.2)
  obtain ⟨k1, hk1⟩ := wAt h1.1 (cel_13 (G := G) h1.2)
  have e1 := wSet (v := setC u a1 (va_cpy (mB u a) (mB u a1) sp.toNatClampNeg dp.toNatClampNeg n.toNatClampNeg)) hW.1.2 h1.1 hk1 (cel_13 h1.2) rfl (up_C (se_C (fun _ => cel_13) h1.2))
  have hts := F.1.2.2.2.2
  have hobj : ∃ C : String, (C, "java/lang/Object") ∈ NX ∧ ∀ y : Nat, OB u y ci → ∃ cellV : Cell, H[y]? = some cellV ∧ cellV.vm.isStatics = false ∧ s.vm.findClass C = some cellV.cls := by
    rcases hci with rfl | rfl
    · refine ⟨"LanternDesk$Walk", List.mem_of_getElem? (i := 3) rfl, fun y hy => ?_⟩
      obtain ⟨k, hk⟩ := wAt hy.1 (cel_5 (G := G) hy.2)
      exact va_recv (q := (RX4, TX4, 7)) F.2.1.1 hW.1.1 rfl hk
    · refine ⟨"LanternDesk$Picture", List.mem_of_getElem? (i := 4) rfl, fun y hy => ?_⟩
      obtain ⟨k, hk⟩ := wAt hy.1 (cel_3 (G := G) hy.2)
      exact va_recv (q := (RX2, TX2, 4)) F.2.1.1 hW.1.1 rfl hk
  obtain ⟨C, hC, hobj⟩ := hobj
  refine va_copyq (C := C) F.1.1 F.1.2.1 (by rw [F.1.2.2.1, hml]) F.1.2.2.2.1 (hts _ q1) (hts _ q_157) (hts _ q_158) (hts _ q_159) F.2.1.1 hW.1.1 hW.1.2 hW.2 k0 k1 5 5 hk0 hk1 rfl rfl g1 g2 g3 g4 g5 (fun i hi y hy => hobj y (hel i hi y hy)) ?_ hfr hlo hd (fun H1 locs1 h1 h2 h3 => kk H1 locs1 ⟨⟨by rw [← e1]; exact h1, by rw [← e1]; exact h2⟩, h3⟩)
  intro comp c0 f1 f2
  obtain ⟨c1, t1, d1, d2, d3⟩ := Cond.castable_spec (va_Nw.use (A := args) rfl (F.2.1.2.2.2.1 _ hC))
  cases f2.symm.trans d1
  cases f1.symm.trans d2
  exact d3
theorem rLen_8 (F : Fx p l s m args meth c cc nL own G) (hW : Wd G u s H locs) (h : OB u a 8) (hd : decode cc pc = .ok (.arraylength, 1)) (kk : W p l e R s m args below meth c H locs cells slots Q (F0 m (pc + 1) ls (.int (nI (mN u a)) :: rest))) : W p l e R s m args below meth c H locs cells slots Q (F0 m pc ls (.ref a :: rest)) := by
  obtain ⟨q, hq⟩ := wAt h.1 (cel_8 (G := G) h.2)
  exact va_alen F.1.1 F.1.2.1 F.2.1.1 hW.1.1 q 0 hq rfl rfl hd kk
theorem rLen_11 (F : Fx p l s m args meth c cc nL own G) (hW : Wd G u s H locs) (h : OB u a 11) (hd : decode cc pc = .ok (.arraylength, 1)) (kk : W p l e R s m args below meth c H locs cells slots Q (F0 m (pc + 1) ls (.int (nI (mN u a)) :: rest))) : W p l e R s m args below meth c H locs cells slots Q (F0 m pc ls (.ref a :: rest)) := by
  obtain ⟨q, hq⟩ := wAt h.1 (cel_11 (G := G) h.2)
  exact va_alen F.1.1 F.1.2.1 F.2.1.1 hW.1.1 q 3 hq rfl rfl hd kk
theorem rLen_12 (F : Fx p l s m args meth c cc nL own G) (hW : Wd G u s H locs) (h : OB u a 12) (hd : decode cc pc = .ok (.arraylength, 1)) (kk : W p l e R s m args below meth c H locs cells slots Q (F0 m (pc + 1) ls (.int (nI (mN u a)) :: rest))) : W p l e R s m args below meth c H locs cells slots Q (F0 m pc ls (.ref a :: rest)) := by
  obtain ⟨q, hq⟩ := wAt h.1 (cel_12 (G := G) h.2)
  exact va_alen F.1.1 F.1.2.1 F.2.1.1 hW.1.1 q 4 hq rfl rfl hd kk
theorem rLen_13 (F : Fx p l s m args meth c cc nL own G) (hW : Wd G u s H locs) (h : OB u a 13) (hd : decode cc pc = .ok (.arraylength, 1)) (kk : W p l e R s m args below meth c H locs cells slots Q (F0 m (pc + 1) ls (.int (nI (mN u a)) :: rest))) : W p l e R s m args below meth c H locs cells slots Q (F0 m pc ls (.ref a :: rest)) := by
  obtain ⟨q, hq⟩ := wAt h.1 (cel_13 (G := G) h.2)
  exact va_alen F.1.1 F.1.2.1 F.2.1.1 hW.1.1 q 5 hq rfl rfl hd kk
/-- an array of references, or the empty one that is there from the start -/
def AL (G : Ctx) (u : Mem) (a n : Nat) : Prop := (OB u a 13 ∧ mN u a = n) ∨ (a = G.2.2 1 ∧ n = 0)
theorem rLenE (F : Fx p l s m args meth c cc nL own G) (hW : Wd G u s H locs) {n : Nat} (h : AL G u a n) (hd : decode cc pc = .ok (.arraylength, 1)) (kk : W p l e R s m args below meth c H locs cells slots Q (F0 m (pc + 1) ls (.int (nI n) :: rest))) : W p l e R s m args below meth c H locs cells slots Q (F0 m pc ls (.ref a :: rest)) := by
  rcases h with ⟨h, rfl⟩ | ⟨rfl, rfl⟩
  · exact rLen_13 F hW h hd kk
  · exact va_tlen F.1.1 F.1.2.1 F.2.1.2.2.2.2.2.2.2.2.2.2.1 hW.2 rfl hd kk
theorem rGets (F : Fx p l s m args meth c cc nL own G) (hW : Wd G u s H locs) (hl : Cond.fieldLink own index "java/util/ArrayList" "DEFAULTCAPACITY_EMPTY_ELEMENTDATA" "[Ljava/lang/Object;" ∈ wsL_law) (hd : decode cc pc = .ok (.getstatic index, 3)) (kk : W p l e R s m args below meth c H locs cells slots Q (F0 m (pc + 3) ls (.ref (G.2.2 1) :: rest))) : W p l e R s m args below meth c H locs cells slots Q (F0 m pc ls rest) :=
  va_gets F.1.1 F.1.2.1 F.2.1.2.2.2.2.2.2.2.2.2.1 hW.2 F.1.2.2.2.1 (F.1.2.2.2.2 _ hl) (fun _ h => h) hd kk
/-! new -/
theorem rNew (F : Fx p l s m args meth c cc nL own G) (hW : Wd G u s H locs) {ci N mc ms : Nat} {C : String} {T : u_T} {ty0 : Nat → FieldType} {fs : List Value} (hin : ∀ w ∈ u_ws C T N, w ∈ wsL_law) (hty : ∀ k, k < N → parseFieldDescriptor (T k).2.2.1 = some (ty0 k)) (hcl : Cond.classLink own index C ∈ wsL_law) (hinst : Cond.instantiable C N ∈ wsL_law) (hini : Cond.initialized C ∈ wsL_law) (hc : vwCl[ci]? = some (C, T, N)) (hfs : ∀ j, j < N → defaultValue (ty0 j) = vp_V fs j) (he : ∀ q, cel G (mNew u q ci 0) q = .inr (ci, fs)) (hbc : cells + mc = R.cells) (hbs : slots + ms = R.slots) (h1 : 1 ≤ mc) (h2 : N ≤ ms) (hd : decode cc pc = .ok (.new index, 3)) (kk : ∀ (q : Nat) (H1 : Heap), q ∉ mL u → Wd G (mNew u q ci 0) s H1 locs → W p l e R s m args below meth c H1 locs (cells + 1) (slots + N) Q (F0 m (pc + 3) ls (.ref q :: rest))) : W p l e R s m args below meth c H locs cells slots Q (F0 m pc ls rest) := by
  have hts := F.1.2.2.2.2
  refine va_new F.1.1 F.1.2.1 hts hin ty0 hty F.1.2.2.2.1 (hts _ hcl) (hts _ hinst) (hts _ hini) F.2.1.1 hW.1.1 hW.1.2 hW.2 F.hA hc hfs (by omega) (by omega) hd (fun q H1 h1 h2 h3 => ?_)
  have hq := wFresh h2
  have e1 := wPush hq (he q)
  exact kk q H1 hq ⟨⟨by rw [← e1]; exact h1, by rw [← e1]; exact h2⟩, h3⟩
theorem rNewI (F : Fx p l s m args meth c cc nL own G) (hW : Wd G u s H locs) {mc ms N : Nat} (hbc : cells + mc = R.cells) (hbs : slots + ms = R.slots) (h1 : 1 ≤ mc) (h2 : N ≤ ms) (hN : N ≤ 100000) (hd : decode cc pc = .ok (.newarray .int, 2)) (kk : ∀ (q : Nat) (H1 : Heap), q ∉ mL u → Wd G (mNew u q 8 N) s H1 locs → W p l e R s m args below meth c H1 locs (cells + 1) (slots + N) Q (F0 m (pc + 2) ls (.ref q :: rest))) : W p l e R s m args below meth c H locs cells slots Q (F0 m pc ls (.int (nI N) :: rest)) := by
  have hts := F.1.2.2.2.2
  refine va_newa (a0 := (N, .inl (fun _ => 0))) (ty := .int) F.1.1 F.1.2.1 (atype := .int) (hts _ q_3) rfl F.2.1.1 hW.1.1 hW.1.2 hW.2 F.hA (fun cA => rfl) (nI_pos (by omega)) (nI_clamp (by omega)) (Nat.le_trans (Nat.mul_le_mul_right 4 hN) (by decide)) (by omega) (by omega) hd (fun q cA H1 h0 h1 h2 h3 => ?_)
  have ec := tya_eq (j := 0) h0 rfl
  subst ec
  have hq := wFresh h2
  have e1 := wPush (k := 8) (n := N) hq (show cel G (mNew u q 8 N) q = .inl (G.2.1 0, N, .inl (fun _ => 0)) by rw [cel_8 (by simp [mNew, mK])]; simp [mNew, mN, mA])
  exact kk q H1 hq ⟨⟨by rw [← e1]; exact h1, by rw [← e1]; exact h2⟩, h3⟩
theorem rNewQ_11 (F : Fx p l s m args meth c cc nL own G) (hW : Wd G u s H locs) {mc ms N : Nat} (hcl : Cond.classLink own index "LanternDesk$Street" ∈ wsL_law) (hbc : cells + mc = R.cells) (hbs : slots + ms = R.slots) (h1 : 1 ≤ mc) (h2 : N ≤ ms) (hN : N ≤ 100000) (hd : decode cc pc = .ok (.anewarray index, 3)) (kk : ∀ (q : Nat) (H1 : Heap), q ∉ mL u → Wd G (mNew u q 11 N) s H1 locs → W p l e R s m args below meth c H1 locs (cells + 1) (slots + N) Q (F0 m (pc + 3) ls (.ref q :: rest))) : W p l e R s m args below meth c H locs cells slots Q (F0 m pc ls (.int (nI N) :: rest)) := by
  have hts := F.1.2.2.2.2
  refine va_newq F.1.1 F.1.2.1 F.1.2.2.2.1 (hts _ hcl) (F.2.1.2.2.2.2.2.2.2.1 "LanternDesk$Street" (List.mem_of_getElem? (i := 0) rfl)) F.2.1.1 hW.1.1 hW.1.2 hW.2 F.hA (nI_pos (by omega)) (nI_clamp (by omega)) (Nat.le_trans (Nat.mul_le_mul_right 4 hN) (by decide)) (by omega) (by omega) hd (fun q cA H1 h0 h1 h2 h3 => ?_)
  have ec := tya_eq (j := 3) h0 rfl
  subst ec
  have hq := wFresh h2
  have e1 := wPush (k := 11) (n := N) hq (show cel G (mNew u q 11 N) q = .inl (G.2.1 3, N, .inr (.inr (.inr (.inr (fun _ => none))))) by rw [cel_11 (by simp [mNew, mK])]; simp [mNew, mN, mB])
  exact kk q H1 hq ⟨⟨by rw [← e1]; exact h1, by rw [← e1]; exact h2⟩, h3⟩
theorem rNewQ_12 (F : Fx p l s m args meth c cc nL own G) (hW : Wd G u s H locs) {mc ms N : Nat} (hcl : Cond.classLink own index "LanternDesk$Escort" ∈ wsL_law) (hbc : cells + mc = R.cells) (hbs : slots + ms = R.slots) (h1 : 1 ≤ mc) (h2 : N ≤ ms) (hN : N ≤ 100000) (hd : decode cc pc = .ok (.anewarray index, 3)) (kk : ∀ (q : Nat) (H1 : Heap), q ∉ mL u → Wd G (mNew u q 12 N) s H1 locs → W p l e R s m args below meth c H1 locs (cells + 1) (slots + N) Q (F0 m (pc + 3) ls (.ref q :: rest))) : W p l e R s m args below meth c H locs cells slots Q (F0 m pc ls (.int (nI N) :: rest)) := by
  have hts := F.1.2.2.2.2
  refine va_newq F.1.1 F.1.2.1 F.1.2.2.2.1 (hts _ hcl) (F.2.1.2.2.2.2.2.2.2.1 "LanternDesk$Escort" (List.mem_of_getElem? (i := 1) rfl)) F.2.1.1 hW.1.1 hW.1.2 hW.2 F.hA (nI_pos (by omega)) (nI_clamp (by omega)) (Nat.le_trans (Nat.mul_le_mul_right 4 hN) (by decide)) (by omega) (by omega) hd (fun q cA H1 h0 h1 h2 h3 => ?_)
  have ec := tya_eq (j := 4) h0 rfl
  subst ec
  have hq := wFresh h2
  have e1 := wPush (k := 12) (n := N) hq (show cel G (mNew u q 12 N) q = .inl (G.2.1 4, N, .inr (.inr (.inr (.inr (fun _ => none))))) by rw [cel_12 (by simp [mNew, mK])]; simp [mNew, mN, mB])
  exact kk q H1 hq ⟨⟨by rw [← e1]; exact h1, by rw [← e1]; exact h2⟩, h3⟩
theorem rNewQ_13 (F : Fx p l s m args meth c cc nL own G) (hW : Wd G u s H locs) {mc ms N : Nat} (hcl : Cond.classLink own index "java/lang/Object" ∈ wsL_law) (hbc : cells + mc = R.cells) (hbs : slots + ms = R.slots) (h1 : 1 ≤ mc) (h2 : N ≤ ms) (hN : N ≤ 100000) (hd : decode cc pc = .ok (.anewarray index, 3)) (kk : ∀ (q : Nat) (H1 : Heap), q ∉ mL u → Wd G (mNew u q 13 N) s H1 locs → W p l e R s m args below meth c H1 locs (cells + 1) (slots + N) Q (F0 m (pc + 3) ls (.ref q :: rest))) : W p l e R s m args below meth c H locs cells slots Q (F0 m pc ls (.int (nI N) :: rest)) := by
  have hts := F.1.2.2.2.2
  refine va_newq F.1.1 F.1.2.1 F.1.2.2.2.1 (hts _ hcl) (F.2.1.2.2.2.2.2.2.2.1 "java/lang/Object" (List.mem_of_getElem? (i := 2) rfl)) F.2.1.1 hW.1.1 hW.1.2 hW.2 F.hA (nI_pos (by omega)) (nI_clamp (by omega)) (Nat.le_trans (Nat.mul_le_mul_right 4 hN) (by decide)) (by omega) (by omega) hd (fun q cA H1 h0 h1 h2 h3 => ?_)
  have ec := tya_eq (j := 5) h0 rfl
  subst ec
  have hq := wFresh h2
  have e1 := wPush (k := 13) (n := N) hq (show cel G (mNew u q 13 N) q = .inl (G.2.1 5, N, .inr (.inr (.inr (.inr (fun _ => none))))) by rw [cel_13 (by simp [mNew, mK])]; simp [mNew, mN, mB])
  exact kk q H1 hq ⟨⟨by rw [← e1]; exact h1, by rw [← e1]; exact h2⟩, h3⟩
theorem gf_0_0 (F : Fx p l s m args meth c cc nL own G) (hW : Wd G u s H locs) (h : OB u a 0) (hl : Cond.fieldLink own index "java/util/ArrayList" "modCount" "I" ∈ wsL_law) (hd : decode cc pc = .ok (.getfield index, 3)) (kk : W p l e R s m args below meth c H locs cells slots Q (F0 m (pc + 3) ls (.int (mI u 0 a) :: rest))) : W p l e R s m args below meth c H locs cells slots Q (F0 m pc ls (.ref a :: rest)) := rGet F hW inlJx4a65c h.1 (cel_0 h.2) rfl (k := 0) (by decide) hl (u_same (F.1.2.2.2.2 _ q_113)) rfl hd kk
theorem pe_0_0 {G : Ctx} {u : Mem} {a : Nat} {x : Int32} (h : mK u a = 0) : cel G (setI u 0 a x) a = .inr (0, [.int x, va_rf (mR u 1 a), .int (mI u 2 a)]) := by rw [cel_0 (u := setI u 0 a x) h]; simp [setI, setR, mI, mR]
theorem pf_0_0 (F : Fx p l s m args meth c cc nL own G) (hW : Wd G u s H locs) {x : Int32} (h : OB u a 0) (hl : Cond.fieldLink own index "java/util/ArrayList" "modCount" "I" ∈ wsL_law) (hd : decode cc pc = .ok (.putfield index, 3)) (kk : ∀ (H1 : Heap) (locs1 : List Loc), Wd G (setI u 0 a x) s H1 locs1 → W p l e R s m args below meth c H1 locs1 cells slots Q (F0 m (pc + 3) ls rest)) : W p l e R s m args below meth c H locs cells slots Q (F0 m pc ls (.int x :: .ref a :: rest)) := rPut F hW (u' := setI u 0 a x) inlJx4a65c tyJx4a65c_ok nmJx4a65c h.1 (cel_0 h.2) rfl (k := 0) (by decide) hl (u_same (F.1.2.2.2.2 _ q_113)) rfl (tyJx4a65c_ok 0 (by decide)) rfl rfl (show 0 < 3 by decide) rfl (up_I (pe_0_0 h.2)) hd kk
theorem gf_0_1 (F : Fx p l s m args meth c cc nL own G) (hW : Wd G u s H locs) (h : OB u a 0) (hl : Cond.fieldLink own index "java/util/ArrayList" "elementData" "[Ljava/lang/Object;" ∈ wsL_law) (hd : decode cc pc = .ok (.getfield index, 3)) (kk : W p l e R s m args below meth c H locs cells slots Q (F0 m (pc + 3) ls (va_rf (mR u 1 a) :: rest))) : W p l e R s m args below meth c H locs cells slots Q (F0 m pc ls (.ref a :: rest)) := rGet F hW inlJx4a65c h.1 (cel_0 h.2) rfl (k := 1) (by decide) hl (fun _ h => h) rfl hd kk
theorem pe_0_1 {G : Ctx} {u : Mem} {a : Nat} {x : Option Nat} (h : mK u a = 0) : cel G (setR u 1 a x) a = .inr (0, [.int (mI u 0 a), va_rf x, .int (mI u 2 a)]) := by rw [cel_0 (u := setR u 1 a x) h]; simp [setI, setR, mI, mR]
theorem pf_0_1 (F : Fx p l s m args meth c cc nL own G) (hW : Wd G u s H locs) {x : Option Nat} (h : OB u a 0) (hl : Cond.fieldLink own index "java/util/ArrayList" "elementData" "[Ljava/lang/Object;" ∈ wsL_law) (hd : decode cc pc = .ok (.putfield index, 3)) (kk : ∀ (H1 : Heap) (locs1 : List Loc), Wd G (setR u 1 a x) s H1 locs1 → W p l e R s m args below meth c H1 locs1 cells slots Q (F0 m (pc + 3) ls rest)) : W p l e R s m args below meth c H locs cells slots Q (F0 m pc ls (va_rf x :: .ref a :: rest)) := rPut F hW (u' := setR u 1 a x) inlJx4a65c tyJx4a65c_ok nmJx4a65c h.1 (cel_0 h.2) rfl (k := 1) (by decide) hl (fun _ h => h) rfl (tyJx4a65c_ok 1 (by decide)) (by cases x <;> rfl) (by cases x <;> rfl) (show 1 < 3 by decide) rfl (up_R (pe_0_1 h.2)) hd kk
theorem gf_0_2 (F : Fx p l s m args meth c cc nL own G) (hW : Wd G u s H locs) (h : OB u a 0) (hl : Cond.fieldLink own index "java/util/ArrayList" "size" "I" ∈ wsL_law) (hd : decode cc pc = .ok (.getfield index, 3)) (kk : W p l e R s m args below meth c H locs cells slots Q (F0 m (pc + 3) ls (.int (mI u 2 a) :: rest))) : W p l e R s m args below meth c H locs cells slots Q (F0 m pc ls (.ref a :: rest)) := rGet F hW inlJx4a65c h.1 (cel_0 h.2) rfl (k := 2) (by decide) hl (fun _ h => h) rfl hd kk
theorem pe_0_2 {G : Ctx} {u : Mem} {a : Nat} {x : Int32} (h : mK u a = 0) : cel G (setI u 2 a x) a = .inr (0, [.int (mI u 0 a), va_rf (mR u 1 a), .int x]) := by rw [cel_0 (u := setI u 2 a x) h]; simp [setI, setR, mI, mR]
theorem pf_0_2 (F : Fx p l s m args meth c cc nL own G) (hW : Wd G u s H locs) {x : Int32} (h : OB u a 0) (hl : Cond.fieldLink own index "java/util/ArrayList" "size" "I" ∈ wsL_law) (hd : decode cc pc = .ok (.putfield index, 3)) (kk : ∀ (H1 : Heap) (locs1 : List Loc), Wd G (setI u 2 a x) s H1 locs1 → W p l e R s m args below meth c H1 locs1 cells slots Q (F0 m (pc + 3) ls rest)) : W p l e R s m args below meth c H locs cells slots Q (F0 m pc ls (.int x :: .ref a :: rest)) := rPut F hW (u' := setI u 2 a x) inlJx4a65c tyJx4a65c_ok nmJx4a65c h.1 (cel_0 h.2) rfl (k := 2) (by decide) hl (fun _ h => h) rfl (tyJx4a65c_ok 2 (by decide)) rfl rfl (show 2 < 3 by decide) rfl (up_I (pe_0_2 h.2)) hd kk
theorem nw_0 (F : Fx p l s m args meth c cc nL own G) (hW : Wd G u s H locs) {mc ms : Nat} (hcl : Cond.classLink own index "java/util/ArrayList" ∈ wsL_law) (hinst : Cond.instantiable "java/util/ArrayList" 3 ∈ wsL_law) (hini : Cond.initialized "java/util/ArrayList" ∈ wsL_law) (hbc : cells + mc = R.cells) (hbs : slots + ms = R.slots) (h1 : 1 ≤ mc) (h2 : 3 ≤ ms) (hd : decode cc pc = .ok (.new index, 3)) (kk : ∀ (q : Nat) (H1 : Heap), q ∉ mL u → Wd G (mNew u q 0 0) s H1 locs → W p l e R s m args below meth c H1 locs (cells + 1) (slots + 3) Q (F0 m (pc + 3) ls (.ref q :: rest))) : W p l e R s m args below meth c H locs cells slots Q (F0 m pc ls rest) := rNew F hW (fs := [.int 0, .null, .int 0]) inlJx4a65c tyJx4a65c_ok hcl hinst hini rfl (fun j hj => by rcases (show j = 0 ∨ j = 1 ∨ j = 2 by omega) with rfl | rfl | rfl <;> rfl) (fun q => by rw [cel_0 (by simp [mNew, mK])]; simp [mNew, mI, mR, va_rf]) hbc hbs h1 h2 hd kk
theorem gf_1_0 (F : Fx p l s m args meth c cc nL own G) (hW : Wd G u s H locs) (h : OB u a 1) (hl : Cond.fieldLink own index "LanternDesk$Album" "papers" "Ljava/util/ArrayList;" ∈ wsL_law) (hd : decode cc pc = .ok (.getfield index, 3)) (kk : W p l e R s m args below meth c H locs cells slots Q (F0 m (pc + 3) ls (va_rf (mR u 32 a) :: rest))) : W p l e R s m args below meth c H locs cells slots Q (F0 m pc ls (.ref a :: rest)) := rGet F hW inlX0 h.1 (cel_1 h.2) rfl (k := 0) (by decide) hl (fun _ h => h) rfl hd kk
theorem pe_1_0 {G : Ctx} {u : Mem} {a : Nat} {x : Option Nat} (h : mK u a = 1) : cel G (setR u 32 a x) a = .inr (1, [va_rf x, va_rf (mR u 33 a)]) := by rw [cel_1 (u := setR u 32 a x) h]; simp [setI, setR, mI, mR]
theorem pf_1_0 (F : Fx p l s m args meth c cc nL "LanternDesk$Album" G) (hW : Wd G u s H locs) (hnm : meth.name = "<init>") {x : Option Nat} (h : OB u a 1) (hl : Cond.fieldLink "LanternDesk$Album" index "LanternDesk$Album" "papers" "Ljava/util/ArrayList;" ∈ wsL_law) (hd : decode cc pc = .ok (.putfield index, 3)) (kk : ∀ (H1 : Heap) (locs1 : List Loc), Wd G (setR u 32 a x) s H1 locs1 → W p l e R s m args below meth c H1 locs1 cells slots Q (F0 m (pc + 3) ls rest)) : W p l e R s m args below meth c H locs cells slots Q (F0 m pc ls (va_rf x :: .ref a :: rest)) := rPutF F hW (u' := setR u 32 a x) inlX0 tyX0_ok nmX0 h.1 (cel_1 h.2) rfl (k := 0) (by decide) hl rfl rfl rfl hnm (tyX0_ok 0 (by decide)) (by cases x <;> rfl) (by cases x <;> rfl) (show 0 < 2 by decide) rfl (up_R (pe_1_0 h.2)) hd kk
theorem gf_1_1 (F : Fx p l s m args meth c cc nL own G) (hW : Wd G u s H locs) (h : OB u a 1) (hl : Cond.fieldLink own index "LanternDesk$Album" "kept" "Ljava/util/ArrayList;" ∈ wsL_law) (hd : decode cc pc = .ok (.getfield index, 3)) (kk : W p l e R s m args below meth c H locs cells slots Q (F0 m (pc + 3) ls (va_rf (mR u 33 a) :: rest))) : W p l e R s m args below meth c H locs cells slots Q (F0 m pc ls (.ref a :: rest)) := rGet F hW inlX0 h.1 (cel_1 h.2) rfl (k := 1) (by decide) hl (fun _ h => h) rfl hd kk
theorem pe_1_1 {G : Ctx} {u : Mem} {a : Nat} {x : Option Nat} (h : mK u a = 1) : cel G (setR u 33 a x) a = .inr (1, [va_rf (mR u 32 a), va_rf x]) := by rw [cel_1 (u := setR u 33 a x) h]; simp [setI, setR, mI, mR]
theorem pf_1_1 (F : Fx p l s m args meth c cc nL "LanternDesk$Album" G) (hW : Wd G u s H locs) (hnm : meth.name = "<init>") {x : Option Nat} (h : OB u a 1) (hl : Cond.fieldLink "LanternDesk$Album" index "LanternDesk$Album" "kept" "Ljava/util/ArrayList;" ∈ wsL_law) (hd : decode cc pc = .ok (.putfield index, 3)) (kk : ∀ (H1 : Heap) (locs1 : List Loc), Wd G (setR u 33 a x) s H1 locs1 → W p l e R s m args below meth c H1 locs1 cells slots Q (F0 m (pc + 3) ls rest)) : W p l e R s m args below meth c H locs cells slots Q (F0 m pc ls (va_rf x :: .ref a :: rest)) := rPutF F hW (u' := setR u 33 a x) inlX0 tyX0_ok nmX0 h.1 (cel_1 h.2) rfl (k := 1) (by decide) hl rfl rfl rfl hnm (tyX0_ok 1 (by decide)) (by cases x <;> rfl) (by cases x <;> rfl) (show 1 < 2 by decide) rfl (up_R (pe_1_1 h.2)) hd kk
theorem nw_1 (F : Fx p l s m args meth c cc nL own G) (hW : Wd G u s H locs) {mc ms : Nat} (hcl : Cond.classLink own index "LanternDesk$Album" ∈ wsL_law) (hinst : Cond.instantiable "LanternDesk$Album" 2 ∈ wsL_law) (hini : Cond.initialized "LanternDesk$Album" ∈ wsL_law) (hbc : cells + mc = R.cells) (hbs : slots + ms = R.slots) (h1 : 1 ≤ mc) (h2 : 2 ≤ ms) (hd : decode cc pc = .ok (.new index, 3)) (kk : ∀ (q : Nat) (H1 : Heap), q ∉ mL u → Wd G (mNew u q 1 0) s H1 locs → W p l e R s m args below meth c H1 locs (cells + 1) (slots + 2) Q (F0 m (pc + 3) ls (.ref q :: rest))) : W p l e R s m args below meth c H locs cells slots Q (F0 m pc ls rest) := rNew F hW (fs := [.null, .null]) inlX0 tyX0_ok hcl hinst hini rfl (fun j hj => by rcases (show j = 0 ∨ j = 1 by omega) with rfl | rfl <;> rfl) (fun q => by rw [cel_1 (by simp [mNew, mK])]; simp [mNew, mI, mR, va_rf]) hbc hbs h1 h2 hd kk
theorem gf_2_0 (F : Fx p l s m args meth c cc nL own G) (hW : Wd G u s H locs) (h : OB u a 2) (hl : Cond.fieldLink own index "LanternDesk$Escort" "number" "I" ∈ wsL_law) (hd : decode cc pc = .ok (.getfield index, 3)) (kk : W p l e R s m args below meth c H locs cells slots Q (F0 m (pc + 3) ls (.int (mI u 64 a) :: rest))) : W p l e R s m args below meth c H locs cells slots Q (F0 m pc ls (.ref a :: rest)) := rGet F hW inlX1 h.1 (cel_2 h.2) rfl (k := 0) (by decide) hl (fun _ h => h) rfl hd kk
theorem gn_2_0 (F : Fx p l s m args meth c cc nL own G) (hW : Wd G u s H locs) (h : OB u a 2) {host : String} (hl : (own, index, "LanternDesk$Escort", "number", "I", host) ∈ NF) (hd : decode cc pc = .ok (.getfield index, 3)) (kk : W p l e R s m args below meth c H locs cells slots Q (F0 m (pc + 3) ls (.int (mI u 64 a) :: rest))) : W p l e R s m args below meth c H locs cells slots Q (F0 m pc ls (.ref a :: rest)) := rGetN F hW inlX1 h.1 (cel_2 h.2) rfl (k := 0) (by decide) hl rfl rfl hd kk
theorem pe_2_0 {G : Ctx} {u : Mem} {a : Nat} {x : Int32} (h : mK u a = 2) : cel G (setI u 64 a x) a = .inr (2, [.int x, .int (mI u 65 a), .int (mI u 66 a), .int (mI u 67 a)]) := by rw [cel_2 (u := setI u 64 a x) h]; simp [setI, setR, mI, mR]
theorem pf_2_0 (F : Fx p l s m args meth c cc nL "LanternDesk$Escort" G) (hW : Wd G u s H locs) (hnm : meth.name = "<init>") {x : Int32} (h : OB u a 2) (hl : Cond.fieldLink "LanternDesk$Escort" index "LanternDesk$Escort" "number" "I" ∈ wsL_law) (hd : decode cc pc = .ok (.putfield index, 3)) (kk : ∀ (H1 : Heap) (locs1 : List Loc), Wd G (setI u 64 a x) s H1 locs1 → W p l e R s m args below meth c H1 locs1 cells slots Q (F0 m (pc + 3) ls rest)) : W p l e R s m args below meth c H locs cells slots Q (F0 m pc ls (.int x :: .ref a :: rest)) := rPutF F hW (u' := setI u 64 a x) inlX1 tyX1_ok nmX1 h.1 (cel_2 h.2) rfl (k := 0) (by decide) hl rfl rfl rfl hnm (tyX1_ok 0 (by decide)) rfl rfl (show 0 < 4 by decide) rfl (up_I (pe_2_0 h.2)) hd kk
theorem gf_2_1 (F : Fx p l s m args meth c cc nL own G) (hW : Wd G u s H locs) (h : OB u a 2) (hl : Cond.fieldLink own index "LanternDesk$Escort" "street" "I" ∈ wsL_law) (hd : decode cc pc = .ok (.getfield index, 3)) (kk : W p l e R s m args below meth c H locs cells slots Q (F0 m (pc + 3) ls (.int (mI u 65 a) :: rest))) : W p l e R s m args below meth c H locs cells slots Q (F0 m pc ls (.ref a :: rest)) := rGet F hW inlX1 h.1 (cel_2 h.2) rfl (k := 1) (by decide) hl (fun _ h => h) rfl hd kk
theorem gn_2_1 (F : Fx p l s m args meth c cc nL own G) (hW : Wd G u s H locs) (h : OB u a 2) {host : String} (hl : (own, index, "LanternDesk$Escort", "street", "I", host) ∈ NF) (hd : decode cc pc = .ok (.getfield index, 3)) (kk : W p l e R s m args below meth c H locs cells slots Q (F0 m (pc + 3) ls (.int (mI u 65 a) :: rest))) : W p l e R s m args below meth c H locs cells slots Q (F0 m pc ls (.ref a :: rest)) := rGetN F hW inlX1 h.1 (cel_2 h.2) rfl (k := 1) (by decide) hl rfl rfl hd kk
theorem pe_2_1 {G : Ctx} {u : Mem} {a : Nat} {x : Int32} (h : mK u a = 2) : cel G (setI u 65 a x) a = .inr (2, [.int (mI u 64 a), .int x, .int (mI u 66 a), .int (mI u 67 a)]) := by rw [cel_2 (u := setI u 65 a x) h]; simp [setI, setR, mI, mR]
theorem pf_2_1 (F : Fx p l s m args meth c cc nL own G) (hW : Wd G u s H locs) {x : Int32} (h : OB u a 2) (hl : Cond.fieldLink own index "LanternDesk$Escort" "street" "I" ∈ wsL_law) (hd : decode cc pc = .ok (.putfield index, 3)) (kk : ∀ (H1 : Heap) (locs1 : List Loc), Wd G (setI u 65 a x) s H1 locs1 → W p l e R s m args below meth c H1 locs1 cells slots Q (F0 m (pc + 3) ls rest)) : W p l e R s m args below meth c H locs cells slots Q (F0 m pc ls (.int x :: .ref a :: rest)) := rPut F hW (u' := setI u 65 a x) inlX1 tyX1_ok nmX1 h.1 (cel_2 h.2) rfl (k := 1) (by decide) hl (fun _ h => h) rfl (tyX1_ok 1 (by decide)) rfl rfl (show 1 < 4 by decide) rfl (up_I (pe_2_1 h.2)) hd kk
theorem pn_2_1 (F : Fx p l s m args meth c cc nL own G) (hW : Wd G u s H locs) {x : Int32} (h : OB u a 2) {host : String} (hl : (own, index, "LanternDesk$Escort", "street", "I", host) ∈ NF) (hd : decode cc pc = .ok (.putfield index, 3)) (kk : ∀ (H1 : Heap) (locs1 : List Loc), Wd G (setI u 65 a x) s H1 locs1 → W p l e R s m args below meth c H1 locs1 cells slots Q (F0 m (pc + 3) ls rest)) : W p l e R s m args below meth c H locs cells slots Q (F0 m pc ls (.int x :: .ref a :: rest)) := rPutN F hW (u' := setI u 65 a x) inlX1 tyX1_ok nmX1 h.1 (cel_2 h.2) rfl (k := 1) (by decide) hl rfl rfl (tyX1_ok 1 (by decide)) rfl rfl (show 1 < 4 by decide) rfl (up_I (pe_2_1 h.2)) hd kk
theorem gf_2_2 (F : Fx p l s m args meth c cc nL own G) (hW : Wd G u s H locs) (h : OB u a 2) (hl : Cond.fieldLink own index "LanternDesk$Escort" "rank" "I" ∈ wsL_law) (hd : decode cc pc = .ok (.getfield index, 3)) (kk : W p l e R s m args below meth c H locs cells slots Q (F0 m (pc + 3) ls (.int (mI u 66 a) :: rest))) : W p l e R s m args below meth c H locs cells slots Q (F0 m pc ls (.ref a :: rest)) := rGet F hW inlX1 h.1 (cel_2 h.2) rfl (k := 2) (by decide) hl (fun _ h => h) rfl hd kk
theorem gn_2_2 (F : Fx p l s m args meth c cc nL own G) (hW : Wd G u s H locs) (h : OB u a 2) {host : String} (hl : (own, index, "LanternDesk$Escort", "rank", "I", host) ∈ NF) (hd : decode cc pc = .ok (.getfield index, 3)) (kk : W p l e R s m args below meth c H locs cells slots Q (F0 m (pc + 3) ls (.int (mI u 66 a) :: rest))) : W p l e R s m args below meth c H locs cells slots Q (F0 m pc ls (.ref a :: rest)) := rGetN F hW inlX1 h.1 (cel_2 h.2) rfl (k := 2) (by decide) hl rfl rfl hd kk
theorem pe_2_2 {G : Ctx} {u : Mem} {a : Nat} {x : Int32} (h : mK u a = 2) : cel G (setI u 66 a x) a = .inr (2, [.int (mI u 64 a), .int (mI u 65 a), .int x, .int (mI u 67 a)]) := by rw [cel_2 (u := setI u 66 a x) h]; simp [setI, setR, mI, mR]
theorem pf_2_2 (F : Fx p l s m args meth c cc nL own G) (hW : Wd G u s H locs) {x : Int32} (h : OB u a 2) (hl : Cond.fieldLink own index "LanternDesk$Escort" "rank" "I" ∈ wsL_law) (hd : decode cc pc = .ok (.putfield index, 3)) (kk : ∀ (H1 : Heap) (locs1 : List Loc), Wd G (setI u 66 a x) s H1 locs1 → W p l e R s m args below meth c H1 locs1 cells slots Q (F0 m (pc + 3) ls rest)) : W p l e R s m args below meth c H locs cells slots Q (F0 m pc ls (.int x :: .ref a :: rest)) := rPut F hW (u' := setI u 66 a x) inlX1 tyX1_ok nmX1 h.1 (cel_2 h.2) rfl (k := 2) (by decide) hl (fun _ h => h) rfl (tyX1_ok 2 (by decide)) rfl rfl (show 2 < 4 by decide) rfl (up_I (pe_2_2 h.2)) hd kk
theorem pn_2_2 (F : Fx p l s m args meth c cc nL own G) (hW : Wd G u s H locs) {x : Int32} (h : OB u a 2) {host : String} (hl : (own, index, "LanternDesk$Escort", "rank", "I", host) ∈ NF) (hd : decode cc pc = .ok (.putfield index, 3)) (kk : ∀ (H1 : Heap) (locs1 : List Loc), Wd G (setI u 66 a x) s H1 locs1 → W p l e R s m args below meth c H1 locs1 cells slots Q (F0 m (pc + 3) ls rest)) : W p l e R s m args below meth c H locs cells slots Q (F0 m pc ls (.int x :: .ref a :: rest)) := rPutN F hW (u' := setI u 66 a x) inlX1 tyX1_ok nmX1 h.1 (cel_2 h.2) rfl (k := 2) (by decide) hl rfl rfl (tyX1_ok 2 (by decide)) rfl rfl (show 2 < 4 by decide) rfl (up_I (pe_2_2 h.2)) hd kk
theorem gf_2_3 (F : Fx p l s m args meth c cc nL own G) (hW : Wd G u s H locs) (h : OB u a 2) (hl : Cond.fieldLink own index "LanternDesk$Escort" "isFree" "Z" ∈ wsL_law) (hd : decode cc pc = .ok (.getfield index, 3)) (kk : W p l e R s m args below meth c H locs cells slots Q (F0 m (pc + 3) ls (.int (mI u 67 a) :: rest))) : W p l e R s m args below meth c H locs cells slots Q (F0 m pc ls (.ref a :: rest)) := rGet F hW inlX1 h.1 (cel_2 h.2) rfl (k := 3) (by decide) hl (fun _ h => h) rfl hd kk
theorem gn_2_3 (F : Fx p l s m args meth c cc nL own G) (hW : Wd G u s H locs) (h : OB u a 2) {host : String} (hl : (own, index, "LanternDesk$Escort", "isFree", "Z", host) ∈ NF) (hd : decode cc pc = .ok (.getfield index, 3)) (kk : W p l e R s m args below meth c H locs cells slots Q (F0 m (pc + 3) ls (.int (mI u 67 a) :: rest))) : W p l e R s m args below meth c H locs cells slots Q (F0 m pc ls (.ref a :: rest)) := rGetN F hW inlX1 h.1 (cel_2 h.2) rfl (k := 3) (by decide) hl rfl rfl hd kk
theorem pe_2_3 {G : Ctx} {u : Mem} {a : Nat} {x : Int32} (h : mK u a = 2) : cel G (setI u 67 a x) a = .inr (2, [.int (mI u 64 a), .int (mI u 65 a), .int (mI u 66 a), .int x]) := by rw [cel_2 (u := setI u 67 a x) h]; simp [setI, setR, mI, mR]
theorem pf_2_3 (F : Fx p l s m args meth c cc nL own G) (hW : Wd G u s H locs) {x : Int32} (h : OB u a 2) (hl : Cond.fieldLink own index "LanternDesk$Escort" "isFree" "Z" ∈ wsL_law) (hz : x = 0 ∨ x = 1) (hd : decode cc pc = .ok (.putfield index, 3)) (kk : ∀ (H1 : Heap) (locs1 : List Loc), Wd G (setI u 67 a x) s H1 locs1 → W p l e R s m args below meth c H1 locs1 cells slots Q (F0 m (pc + 3) ls rest)) : W p l e R s m args below meth c H locs cells slots Q (F0 m pc ls (.int x :: .ref a :: rest)) := rPut F hW (u' := setI u 67 a x) inlX1 tyX1_ok nmX1 h.1 (cel_2 h.2) rfl (k := 3) (by decide) hl (fun _ h => h) rfl (tyX1_ok 3 (by decide)) (narZ hz) (fitZ hz) (show 3 < 4 by decide) rfl (up_I (pe_2_3 h.2)) hd kk
theorem pn_2_3 (F : Fx p l s m args meth c cc nL own G) (hW : Wd G u s H locs) {x : Int32} (h : OB u a 2) {host : String} (hl : (own, index, "LanternDesk$Escort", "isFree", "Z", host) ∈ NF) (hz : x = 0 ∨ x = 1) (hd : decode cc pc = .ok (.putfield index, 3)) (kk : ∀ (H1 : Heap) (locs1 : List Loc), Wd G (setI u 67 a x) s H1 locs1 → W p l e R s m args below meth c H1 locs1 cells slots Q (F0 m (pc + 3) ls rest)) : W p l e R s m args below meth c H locs cells slots Q (F0 m pc ls (.int x :: .ref a :: rest)) := rPutN F hW (u' := setI u 67 a x) inlX1 tyX1_ok nmX1 h.1 (cel_2 h.2) rfl (k := 3) (by decide) hl rfl rfl (tyX1_ok 3 (by decide)) (narZ hz) (fitZ hz) (show 3 < 4 by decide) rfl (up_I (pe_2_3 h.2)) hd kk
theorem nw_2 (F : Fx p l s m args meth c cc nL own G) (hW : Wd G u s H locs) {mc ms : Nat} (hcl : Cond.classLink own index "LanternDesk$Escort" ∈ wsL_law) (hinst : Cond.instantiable "LanternDesk$Escort" 4 ∈ wsL_law) (hini : Cond.initialized "LanternDesk$Escort" ∈ wsL_law) (hbc : cells + mc = R.cells) (hbs : slots + ms = R.slots) (h1 : 1 ≤ mc) (h2 : 4 ≤ ms) (hd : decode cc pc = .ok (.new index, 3)) (kk : ∀ (q : Nat) (H1 : Heap), q ∉ mL u → Wd G (mNew u q 2 0) s H1 locs → W p l e R s m args below meth c H1 locs (cells + 1) (slots + 4) Q (F0 m (pc + 3) ls (.ref q :: rest))) : W p l e R s m args below meth c H locs cells slots Q (F0 m pc ls rest) := rNew F hW (fs := [.int 0, .int 0, .int 0, .int 0]) inlX1 tyX1_ok hcl hinst hini rfl (fun j hj => by rcases (show j = 0 ∨ j = 1 ∨ j = 2 ∨ j = 3 by omega) with rfl | rfl | rfl | rfl <;> rfl) (fun q => by rw [cel_2 (by simp [mNew, mK])]; simp [mNew, mI, mR, va_rf]) hbc hbs h1 h2 hd kk
theorem gf_3_0 (F : Fx p l s m args meth c cc nL own G) (hW : Wd G u s H locs) (h : OB u a 3) (hl : Cond.fieldLink own index "LanternDesk$Picture" "street" "I" ∈ wsL_law) (hd : decode cc pc = .ok (.getfield index, 3)) (kk : W p l e R s m args below meth c H locs cells slots Q (F0 m (pc + 3) ls (.int (mI u 96 a) :: rest))) : W p l e R s m args below meth c H locs cells slots Q (F0 m pc ls (.ref a :: rest)) := rGet F hW inlX2 h.1 (cel_3 h.2) rfl (k := 0) (by decide) hl (fun _ h => h) rfl hd kk
theorem pe_3_0 {G : Ctx} {u : Mem} {a : Nat} {x : Int32} (h : mK u a = 3) : cel G (setI u 96 a x) a = .inr (3, [.int x, .int (mI u 97 a), .int (mI u 98 a), .int (mI u 99 a)]) := by rw [cel_3 (u := setI u 96 a x) h]; simp [setI, setR, mI, mR]
theorem pf_3_0 (F : Fx p l s m args meth c cc nL "LanternDesk$Picture" G) (hW : Wd G u s H locs) (hnm : meth.name = "<init>") {x : Int32} (h : OB u a 3) (hl : Cond.fieldLink "LanternDesk$Picture" index "LanternDesk$Picture" "street" "I" ∈ wsL_law) (hd : decode cc pc = .ok (.putfield index, 3)) (kk : ∀ (H1 : Heap) (locs1 : List Loc), Wd G (setI u 96 a x) s H1 locs1 → W p l e R s m args below meth c H1 locs1 cells slots Q (F0 m (pc + 3) ls rest)) : W p l e R s m args below meth c H locs cells slots Q (F0 m pc ls (.int x :: .ref a :: rest)) := rPutF F hW (u' := setI u 96 a x) inlX2 tyX2_ok nmX2 h.1 (cel_3 h.2) rfl (k := 0) (by decide) hl rfl rfl rfl hnm (tyX2_ok 0 (by decide)) rfl rfl (show 0 < 4 by decide) rfl (up_I (pe_3_0 h.2)) hd kk
theorem gf_3_1 (F : Fx p l s m args meth c cc nL own G) (hW : Wd G u s H locs) (h : OB u a 3) (hl : Cond.fieldLink own index "LanternDesk$Picture" "walk" "I" ∈ wsL_law) (hd : decode cc pc = .ok (.getfield index, 3)) (kk : W p l e R s m args below meth c H locs cells slots Q (F0 m (pc + 3) ls (.int (mI u 97 a) :: rest))) : W p l e R s m args below meth c H locs cells slots Q (F0 m pc ls (.ref a :: rest)) := rGet F hW inlX2 h.1 (cel_3 h.2) rfl (k := 1) (by decide) hl (fun _ h => h) rfl hd kk
theorem pe_3_1 {G : Ctx} {u : Mem} {a : Nat} {x : Int32} (h : mK u a = 3) : cel G (setI u 97 a x) a = .inr (3, [.int (mI u 96 a), .int x, .int (mI u 98 a), .int (mI u 99 a)]) := by rw [cel_3 (u := setI u 97 a x) h]; simp [setI, setR, mI, mR]
theorem pf_3_1 (F : Fx p l s m args meth c cc nL "LanternDesk$Picture" G) (hW : Wd G u s H locs) (hnm : meth.name = "<init>") {x : Int32} (h : OB u a 3) (hl : Cond.fieldLink "LanternDesk$Picture" index "LanternDesk$Picture" "walk" "I" ∈ wsL_law) (hd : decode cc pc = .ok (.putfield index, 3)) (kk : ∀ (H1 : Heap) (locs1 : List Loc), Wd G (setI u 97 a x) s H1 locs1 → W p l e R s m args below meth c H1 locs1 cells slots Q (F0 m (pc + 3) ls rest)) : W p l e R s m args below meth c H locs cells slots Q (F0 m pc ls (.int x :: .ref a :: rest)) := rPutF F hW (u' := setI u 97 a x) inlX2 tyX2_ok nmX2 h.1 (cel_3 h.2) rfl (k := 1) (by decide) hl rfl rfl rfl hnm (tyX2_ok 1 (by decide)) rfl rfl (show 1 < 4 by decide) rfl (up_I (pe_3_1 h.2)) hd kk
theorem gf_3_2 (F : Fx p l s m args meth c cc nL own G) (hW : Wd G u s H locs) (h : OB u a 3) (hl : Cond.fieldLink own index "LanternDesk$Picture" "takenOn" "I" ∈ wsL_law) (hd : decode cc pc = .ok (.getfield index, 3)) (kk : W p l e R s m args below meth c H locs cells slots Q (F0 m (pc + 3) ls (.int (mI u 98 a) :: rest))) : W p l e R s m args below meth c H locs cells slots Q (F0 m pc ls (.ref a :: rest)) := rGet F hW inlX2 h.1 (cel_3 h.2) rfl (k := 2) (by decide) hl (fun _ h => h) rfl hd kk
theorem pe_3_2 {G : Ctx} {u : Mem} {a : Nat} {x : Int32} (h : mK u a = 3) : cel G (setI u 98 a x) a = .inr (3, [.int (mI u 96 a), .int (mI u 97 a), .int x, .int (mI u 99 a)]) := by rw [cel_3 (u := setI u 98 a x) h]; simp [setI, setR, mI, mR]
theorem pf_3_2 (F : Fx p l s m args meth c cc nL "LanternDesk$Picture" G) (hW : Wd G u s H locs) (hnm : meth.name = "<init>") {x : Int32} (h : OB u a 3) (hl : Cond.fieldLink "LanternDesk$Picture" index "LanternDesk$Picture" "takenOn" "I" ∈ wsL_law) (hd : decode cc pc = .ok (.putfield index, 3)) (kk : ∀ (H1 : Heap) (locs1 : List Loc), Wd G (setI u 98 a x) s H1 locs1 → W p l e R s m args below meth c H1 locs1 cells slots Q (F0 m (pc + 3) ls rest)) : W p l e R s m args below meth c H locs cells slots Q (F0 m pc ls (.int x :: .ref a :: rest)) := rPutF F hW (u' := setI u 98 a x) inlX2 tyX2_ok nmX2 h.1 (cel_3 h.2) rfl (k := 2) (by decide) hl rfl rfl rfl hnm (tyX2_ok 2 (by decide)) rfl rfl (show 2 < 4 by decide) rfl (up_I (pe_3_2 h.2)) hd kk
theorem gf_3_3 (F : Fx p l s m args meth c cc nL own G) (hW : Wd G u s H locs) (h : OB u a 3) (hl : Cond.fieldLink own index "LanternDesk$Picture" "erasedOn" "I" ∈ wsL_law) (hd : decode cc pc = .ok (.getfield index, 3)) (kk : W p l e R s m args below meth c H locs cells slots Q (F0 m (pc + 3) ls (.int (mI u 99 a) :: rest))) : W p l e R s m args below meth c H locs cells slots Q (F0 m pc ls (.ref a :: rest)) := rGet F hW inlX2 h.1 (cel_3 h.2) rfl (k := 3) (by decide) hl (fun _ h => h) rfl hd kk
theorem gn_3_3 (F : Fx p l s m args meth c cc nL own G) (hW : Wd G u s H locs) (h : OB u a 3) {host : String} (hl : (own, index, "LanternDesk$Picture", "erasedOn", "I", host) ∈ NF) (hd : decode cc pc = .ok (.getfield index, 3)) (kk : W p l e R s m args below meth c H locs cells slots Q (F0 m (pc + 3) ls (.int (mI u 99 a) :: rest))) : W p l e R s m args below meth c H locs cells slots Q (F0 m pc ls (.ref a :: rest)) := rGetN F hW inlX2 h.1 (cel_3 h.2) rfl (k := 3) (by decide) hl rfl rfl hd kk
theorem pe_3_3 {G : Ctx} {u : Mem} {a : Nat} {x : Int32} (h : mK u a = 3) : cel G (setI u 99 a x) a = .inr (3, [.int (mI u 96 a), .int (mI u 97 a), .int (mI u 98 a), .int x]) := by rw [cel_3 (u := setI u 99 a x) h]; simp [setI, setR, mI, mR]
theorem pf_3_3 (F : Fx p l s m args meth c cc nL "LanternDesk$Picture" G) (hW : Wd G u s H locs) (hnm : meth.name = "<init>") {x : Int32} (h : OB u a 3) (hl : Cond.fieldLink "LanternDesk$Picture" index "LanternDesk$Picture" "erasedOn" "I" ∈ wsL_law) (hd : decode cc pc = .ok (.putfield index, 3)) (kk : ∀ (H1 : Heap) (locs1 : List Loc), Wd G (setI u 99 a x) s H1 locs1 → W p l e R s m args below meth c H1 locs1 cells slots Q (F0 m (pc + 3) ls rest)) : W p l e R s m args below meth c H locs cells slots Q (F0 m pc ls (.int x :: .ref a :: rest)) := rPutF F hW (u' := setI u 99 a x) inlX2 tyX2_ok nmX2 h.1 (cel_3 h.2) rfl (k := 3) (by decide) hl rfl rfl rfl hnm (tyX2_ok 3 (by decide)) rfl rfl (show 3 < 4 by decide) rfl (up_I (pe_3_3 h.2)) hd kk
theorem nw_3 (F : Fx p l s m args meth c cc nL own G) (hW : Wd G u s H locs) {mc ms : Nat} (hcl : Cond.classLink own index "LanternDesk$Picture" ∈ wsL_law) (hinst : Cond.instantiable "LanternDesk$Picture" 4 ∈ wsL_law) (hini : Cond.initialized "LanternDesk$Picture" ∈ wsL_law) (hbc : cells + mc = R.cells) (hbs : slots + ms = R.slots) (h1 : 1 ≤ mc) (h2 : 4 ≤ ms) (hd : decode cc pc = .ok (.new index, 3)) (kk : ∀ (q : Nat) (H1 : Heap), q ∉ mL u → Wd G (mNew u q 3 0) s H1 locs → W p l e R s m args below meth c H1 locs (cells + 1) (slots + 4) Q (F0 m (pc + 3) ls (.ref q :: rest))) : W p l e R s m args below meth c H locs cells slots Q (F0 m pc ls rest) := rNew F hW (fs := [.int 0, .int 0, .int 0, .int 0]) inlX2 tyX2_ok hcl hinst hini rfl (fun j hj => by rcases (show j = 0 ∨ j = 1 ∨ j = 2 ∨ j = 3 by omega) with rfl | rfl | rfl | rfl <;> rfl) (fun q => by rw [cel_3 (by simp [mNew, mK])]; simp [mNew, mI, mR, va_rf]) hbc hbs h1 h2 hd kk
theorem gf_4_0 (F : Fx p l s m args meth c cc nL own G) (hW : Wd G u s H locs) (h : OB u a 4) (hl : Cond.fieldLink own index "LanternDesk$Street" "purse" "I" ∈ wsL_law) (hd : decode cc pc = .ok (.getfield index, 3)) (kk : W p l e R s m args below meth c H locs cells slots Q (F0 m (pc + 3) ls (.int (mI u 128 a) :: rest))) : W p l e R s m args below meth c H locs cells slots Q (F0 m pc ls (.ref a :: rest)) := rGet F hW inlX3 h.1 (cel_4 h.2) rfl (k := 0) (by decide) hl (fun _ h => h) rfl hd kk
theorem gn_4_0 (F : Fx p l s m args meth c cc nL own G) (hW : Wd G u s H locs) (h : OB u a 4) {host : String} (hl : (own, index, "LanternDesk$Street", "purse", "I", host) ∈ NF) (hd : decode cc pc = .ok (.getfield index, 3)) (kk : W p l e R s m args below meth c H locs cells slots Q (F0 m (pc + 3) ls (.int (mI u 128 a) :: rest))) : W p l e R s m args below meth c H locs cells slots Q (F0 m pc ls (.ref a :: rest)) := rGetN F hW inlX3 h.1 (cel_4 h.2) rfl (k := 0) (by decide) hl rfl rfl hd kk
theorem pe_4_0 {G : Ctx} {u : Mem} {a : Nat} {x : Int32} (h : mK u a = 4) : cel G (setI u 128 a x) a = .inr (4, [.int x, .int (mI u 129 a), .int (mI u 130 a), va_rf (mR u 131 a)]) := by rw [cel_4 (u := setI u 128 a x) h]; simp [setI, setR, mI, mR]
theorem pf_4_0 (F : Fx p l s m args meth c cc nL own G) (hW : Wd G u s H locs) {x : Int32} (h : OB u a 4) (hl : Cond.fieldLink own index "LanternDesk$Street" "purse" "I" ∈ wsL_law) (hd : decode cc pc = .ok (.putfield index, 3)) (kk : ∀ (H1 : Heap) (locs1 : List Loc), Wd G (setI u 128 a x) s H1 locs1 → W p l e R s m args below meth c H1 locs1 cells slots Q (F0 m (pc + 3) ls rest)) : W p l e R s m args below meth c H locs cells slots Q (F0 m pc ls (.int x :: .ref a :: rest)) := rPut F hW (u' := setI u 128 a x) inlX3 tyX3_ok nmX3 h.1 (cel_4 h.2) rfl (k := 0) (by decide) hl (fun _ h => h) rfl (tyX3_ok 0 (by decide)) rfl rfl (show 0 < 4 by decide) rfl (up_I (pe_4_0 h.2)) hd kk
theorem pn_4_0 (F : Fx p l s m args meth c cc nL own G) (hW : Wd G u s H locs) {x : Int32} (h : OB u a 4) {host : String} (hl : (own, index, "LanternDesk$Street", "purse", "I", host) ∈ NF) (hd : decode cc pc = .ok (.putfield index, 3)) (kk : ∀ (H1 : Heap) (locs1 : List Loc), Wd G (setI u 128 a x) s H1 locs1 → W p l e R s m args below meth c H1 locs1 cells slots Q (F0 m (pc + 3) ls rest)) : W p l e R s m args below meth c H locs cells slots Q (F0 m pc ls (.int x :: .ref a :: rest)) := rPutN F hW (u' := setI u 128 a x) inlX3 tyX3_ok nmX3 h.1 (cel_4 h.2) rfl (k := 0) (by decide) hl rfl rfl (tyX3_ok 0 (by decide)) rfl rfl (show 0 < 4 by decide) rfl (up_I (pe_4_0 h.2)) hd kk
theorem gf_4_1 (F : Fx p l s m args meth c cc nL own G) (hW : Wd G u s H locs) (h : OB u a 4) (hl : Cond.fieldLink own index "LanternDesk$Street" "price" "I" ∈ wsL_law) (hd : decode cc pc = .ok (.getfield index, 3)) (kk : W p l e R s m args below meth c H locs cells slots Q (F0 m (pc + 3) ls (.int (mI u 129 a) :: rest))) : W p l e R s m args below meth c H locs cells slots Q (F0 m pc ls (.ref a :: rest)) := rGet F hW inlX3 h.1 (cel_4 h.2) rfl (k := 1) (by decide) hl (fun _ h => h) rfl hd kk
theorem gn_4_1 (F : Fx p l s m args meth c cc nL own G) (hW : Wd G u s H locs) (h : OB u a 4) {host : String} (hl : (own, index, "LanternDesk$Street", "price", "I", host) ∈ NF) (hd : decode cc pc = .ok (.getfield index, 3)) (kk : W p l e R s m args below meth c H locs cells slots Q (F0 m (pc + 3) ls (.int (mI u 129 a) :: rest))) : W p l e R s m args below meth c H locs cells slots Q (F0 m pc ls (.ref a :: rest)) := rGetN F hW inlX3 h.1 (cel_4 h.2) rfl (k := 1) (by decide) hl rfl rfl hd kk
theorem pe_4_1 {G : Ctx} {u : Mem} {a : Nat} {x : Int32} (h : mK u a = 4) : cel G (setI u 129 a x) a = .inr (4, [.int (mI u 128 a), .int x, .int (mI u 130 a), va_rf (mR u 131 a)]) := by rw [cel_4 (u := setI u 129 a x) h]; simp [setI, setR, mI, mR]
theorem pf_4_1 (F : Fx p l s m args meth c cc nL own G) (hW : Wd G u s H locs) {x : Int32} (h : OB u a 4) (hl : Cond.fieldLink own index "LanternDesk$Street" "price" "I" ∈ wsL_law) (hd : decode cc pc = .ok (.putfield index, 3)) (kk : ∀ (H1 : Heap) (locs1 : List Loc), Wd G (setI u 129 a x) s H1 locs1 → W p l e R s m args below meth c H1 locs1 cells slots Q (F0 m (pc + 3) ls rest)) : W p l e R s m args below meth c H locs cells slots Q (F0 m pc ls (.int x :: .ref a :: rest)) := rPut F hW (u' := setI u 129 a x) inlX3 tyX3_ok nmX3 h.1 (cel_4 h.2) rfl (k := 1) (by decide) hl (fun _ h => h) rfl (tyX3_ok 1 (by decide)) rfl rfl (show 1 < 4 by decide) rfl (up_I (pe_4_1 h.2)) hd kk
theorem pn_4_1 (F : Fx p l s m args meth c cc nL own G) (hW : Wd G u s H locs) {x : Int32} (h : OB u a 4) {host : String} (hl : (own, index, "LanternDesk$Street", "price", "I", host) ∈ NF) (hd : decode cc pc = .ok (.putfield index, 3)) (kk : ∀ (H1 : Heap) (locs1 : List Loc), Wd G (setI u 129 a x) s H1 locs1 → W p l e R s m args below meth c H1 locs1 cells slots Q (F0 m (pc + 3) ls rest)) : W p l e R s m args below meth c H locs cells slots Q (F0 m pc ls (.int x :: .ref a :: rest)) := rPutN F hW (u' := setI u 129 a x) inlX3 tyX3_ok nmX3 h.1 (cel_4 h.2) rfl (k := 1) (by decide) hl rfl rfl (tyX3_ok 1 (by decide)) rfl rfl (show 1 < 4 by decide) rfl (up_I (pe_4_1 h.2)) hd kk
theorem gf_4_2 (F : Fx p l s m args meth c cc nL own G) (hW : Wd G u s H locs) (h : OB u a 4) (hl : Cond.fieldLink own index "LanternDesk$Street" "hasCamera" "Z" ∈ wsL_law) (hd : decode cc pc = .ok (.getfield index, 3)) (kk : W p l e R s m args below meth c H locs cells slots Q (F0 m (pc + 3) ls (.int (mI u 130 a) :: rest))) : W p l e R s m args below meth c H locs cells slots Q (F0 m pc ls (.ref a :: rest)) := rGet F hW inlX3 h.1 (cel_4 h.2) rfl (k := 2) (by decide) hl (fun _ h => h) rfl hd kk
theorem gn_4_2 (F : Fx p l s m args meth c cc nL own G) (hW : Wd G u s H locs) (h : OB u a 4) {host : String} (hl : (own, index, "LanternDesk$Street", "hasCamera", "Z", host) ∈ NF) (hd : decode cc pc = .ok (.getfield index, 3)) (kk : W p l e R s m args below meth c H locs cells slots Q (F0 m (pc + 3) ls (.int (mI u 130 a) :: rest))) : W p l e R s m args below meth c H locs cells slots Q (F0 m pc ls (.ref a :: rest)) := rGetN F hW inlX3 h.1 (cel_4 h.2) rfl (k := 2) (by decide) hl rfl rfl hd kk
theorem pe_4_2 {G : Ctx} {u : Mem} {a : Nat} {x : Int32} (h : mK u a = 4) : cel G (setI u 130 a x) a = .inr (4, [.int (mI u 128 a), .int (mI u 129 a), .int x, va_rf (mR u 131 a)]) := by rw [cel_4 (u := setI u 130 a x) h]; simp [setI, setR, mI, mR]
theorem pf_4_2 (F : Fx p l s m args meth c cc nL own G) (hW : Wd G u s H locs) {x : Int32} (h : OB u a 4) (hl : Cond.fieldLink own index "LanternDesk$Street" "hasCamera" "Z" ∈ wsL_law) (hz : x = 0 ∨ x = 1) (hd : decode cc pc = .ok (.putfield index, 3)) (kk : ∀ (H1 : Heap) (locs1 : List Loc), Wd G (setI u 130 a x) s H1 locs1 → W p l e R s m args below meth c H1 locs1 cells slots Q (F0 m (pc + 3) ls rest)) : W p l e R s m args below meth c H locs cells slots Q (F0 m pc ls (.int x :: .ref a :: rest)) := rPut F hW (u' := setI u 130 a x) inlX3 tyX3_ok nmX3 h.1 (cel_4 h.2) rfl (k := 2) (by decide) hl (fun _ h => h) rfl (tyX3_ok 2 (by decide)) (narZ hz) (fitZ hz) (show 2 < 4 by decide) rfl (up_I (pe_4_2 h.2)) hd kk
theorem pn_4_2 (F : Fx p l s m args meth c cc nL own G) (hW : Wd G u s H locs) {x : Int32} (h : OB u a 4) {host : String} (hl : (own, index, "LanternDesk$Street", "hasCamera", "Z", host) ∈ NF) (hz : x = 0 ∨ x = 1) (hd : decode cc pc = .ok (.putfield index, 3)) (kk : ∀ (H1 : Heap) (locs1 : List Loc), Wd G (setI u 130 a x) s H1 locs1 → W p l e R s m args below meth c H1 locs1 cells slots Q (F0 m (pc + 3) ls rest)) : W p l e R s m args below meth c H locs cells slots Q (F0 m pc ls (.int x :: .ref a :: rest)) := rPutN F hW (u' := setI u 130 a x) inlX3 tyX3_ok nmX3 h.1 (cel_4 h.2) rfl (k := 2) (by decide) hl rfl rfl (tyX3_ok 2 (by decide)) (narZ hz) (fitZ hz) (show 2 < 4 by decide) rfl (up_I (pe_4_2 h.2)) hd kk
theorem gf_4_3 (F : Fx p l s m args meth c cc nL own G) (hW : Wd G u s H locs) (h : OB u a 4) (hl : Cond.fieldLink own index "LanternDesk$Street" "votes" "[I" ∈ wsL_law) (hd : decode cc pc = .ok (.getfield index, 3)) (kk : W p l e R s m args below meth c H locs cells slots Q (F0 m (pc + 3) ls (va_rf (mR u 131 a) :: rest))) : W p l e R s m args below meth c H locs cells slots Q (F0 m pc ls (.ref a :: rest)) := rGet F hW inlX3 h.1 (cel_4 h.2) rfl (k := 3) (by decide) hl (fun _ h => h) rfl hd kk
theorem pe_4_3 {G : Ctx} {u : Mem} {a : Nat} {x : Option Nat} (h : mK u a = 4) : cel G (setR u 131 a x) a = .inr (4, [.int (mI u 128 a), .int (mI u 129 a), .int (mI u 130 a), va_rf x]) := by rw [cel_4 (u := setR u 131 a x) h]; simp [setI, setR, mI, mR]
theorem pf_4_3 (F : Fx p l s m args meth c cc nL "LanternDesk$Street" G) (hW : Wd G u s H locs) (hnm : meth.name = "<init>") {x : Option Nat} (h : OB u a 4) (hl : Cond.fieldLink "LanternDesk$Street" index "LanternDesk$Street" "votes" "[I" ∈ wsL_law) (hd : decode cc pc = .ok (.putfield index, 3)) (kk : ∀ (H1 : Heap) (locs1 : List Loc), Wd G (setR u 131 a x) s H1 locs1 → W p l e R s m args below meth c H1 locs1 cells slots Q (F0 m (pc + 3) ls rest)) : W p l e R s m args below meth c H locs cells slots Q (F0 m pc ls (va_rf x :: .ref a :: rest)) := rPutF F hW (u' := setR u 131 a x) inlX3 tyX3_ok nmX3 h.1 (cel_4 h.2) rfl (k := 3) (by decide) hl rfl rfl rfl hnm (tyX3_ok 3 (by decide)) (by cases x <;> rfl) (by cases x <;> rfl) (show 3 < 4 by decide) rfl (up_R (pe_4_3 h.2)) hd kk
theorem nw_4 (F : Fx p l s m args meth c cc nL own G) (hW : Wd G u s H locs) {mc ms : Nat} (hcl : Cond.classLink own index "LanternDesk$Street" ∈ wsL_law) (hinst : Cond.instantiable "LanternDesk$Street" 4 ∈ wsL_law) (hini : Cond.initialized "LanternDesk$Street" ∈ wsL_law) (hbc : cells + mc = R.cells) (hbs : slots + ms = R.slots) (h1 : 1 ≤ mc) (h2 : 4 ≤ ms) (hd : decode cc pc = .ok (.new index, 3)) (kk : ∀ (q : Nat) (H1 : Heap), q ∉ mL u → Wd G (mNew u q 4 0) s H1 locs → W p l e R s m args below meth c H1 locs (cells + 1) (slots + 4) Q (F0 m (pc + 3) ls (.ref q :: rest))) : W p l e R s m args below meth c H locs cells slots Q (F0 m pc ls rest) := rNew F hW (fs := [.int 0, .int 0, .int 0, .null]) inlX3 tyX3_ok hcl hinst hini rfl (fun j hj => by rcases (show j = 0 ∨ j = 1 ∨ j = 2 ∨ j = 3 by omega) with rfl | rfl | rfl | rfl <;> rfl) (fun q => by rw [cel_4 (by simp [mNew, mK])]; simp [mNew, mI, mR, va_rf]) hbc hbs h1 h2 hd kk
theorem gf_5_0 (F : Fx p l s m args meth c cc nL own G) (hW : Wd G u s H locs) (h : OB u a 5) (hl : Cond.fieldLink own index "LanternDesk$Walk" "number" "I" ∈ wsL_law) (hd : decode cc pc = .ok (.getfield index, 3)) (kk : W p l e R s m args below meth c H locs cells slots Q (F0 m (pc + 3) ls (.int (mI u 160 a) :: rest))) : W p l e R s m args below meth c H locs cells slots Q (F0 m pc ls (.ref a :: rest)) := rGet F hW inlX4 h.1 (cel_5 h.2) rfl (k := 0) (by decide) hl (fun _ h => h) rfl hd kk
theorem gn_5_0 (F : Fx p l s m args meth c cc nL own G) (hW : Wd G u s H locs) (h : OB u a 5) {host : String} (hl : (own, index, "LanternDesk$Walk", "number", "I", host) ∈ NF) (hd : decode cc pc = .ok (.getfield index, 3)) (kk : W p l e R s m args below meth c H locs cells slots Q (F0 m (pc + 3) ls (.int (mI u 160 a) :: rest))) : W p l e R s m args below meth c H locs cells slots Q (F0 m pc ls (.ref a :: rest)) := rGetN F hW inlX4 h.1 (cel_5 h.2) rfl (k := 0) (by decide) hl rfl rfl hd kk
theorem pe_5_0 {G : Ctx} {u : Mem} {a : Nat} {x : Int32} (h : mK u a = 5) : cel G (setI u 160 a x) a = .inr (5, [.int x, .int (mI u 161 a), .int (mI u 162 a), .int (mI u 163 a), va_rf (mR u 164 a), .int (mI u 165 a), .int (mI u 166 a)]) := by rw [cel_5 (u := setI u 160 a x) h]; simp [setI, setR, mI, mR]
theorem pf_5_0 (F : Fx p l s m args meth c cc nL "LanternDesk$Walk" G) (hW : Wd G u s H locs) (hnm : meth.name = "<init>") {x : Int32} (h : OB u a 5) (hl : Cond.fieldLink "LanternDesk$Walk" index "LanternDesk$Walk" "number" "I" ∈ wsL_law) (hd : decode cc pc = .ok (.putfield index, 3)) (kk : ∀ (H1 : Heap) (locs1 : List Loc), Wd G (setI u 160 a x) s H1 locs1 → W p l e R s m args below meth c H1 locs1 cells slots Q (F0 m (pc + 3) ls rest)) : W p l e R s m args below meth c H locs cells slots Q (F0 m pc ls (.int x :: .ref a :: rest)) := rPutF F hW (u' := setI u 160 a x) inlX4 tyX4_ok nmX4 h.1 (cel_5 h.2) rfl (k := 0) (by decide) hl rfl rfl rfl hnm (tyX4_ok 0 (by decide)) rfl rfl (show 0 < 7 by decide) rfl (up_I (pe_5_0 h.2)) hd kk
theorem gf_5_1 (F : Fx p l s m args meth c cc nL own G) (hW : Wd G u s H locs) (h : OB u a 5) (hl : Cond.fieldLink own index "LanternDesk$Walk" "from" "I" ∈ wsL_law) (hd : decode cc pc = .ok (.getfield index, 3)) (kk : W p l e R s m args below meth c H locs cells slots Q (F0 m (pc + 3) ls (.int (mI u 161 a) :: rest))) : W p l e R s m args below meth c H locs cells slots Q (F0 m pc ls (.ref a :: rest)) := rGet F hW inlX4 h.1 (cel_5 h.2) rfl (k := 1) (by decide) hl (fun _ h => h) rfl hd kk
theorem gn_5_1 (F : Fx p l s m args meth c cc nL own G) (hW : Wd G u s H locs) (h : OB u a 5) {host : String} (hl : (own, index, "LanternDesk$Walk", "from", "I", host) ∈ NF) (hd : decode cc pc = .ok (.getfield index, 3)) (kk : W p l e R s m args below meth c H locs cells slots Q (F0 m (pc + 3) ls (.int (mI u 161 a) :: rest))) : W p l e R s m args below meth c H locs cells slots Q (F0 m pc ls (.ref a :: rest)) := rGetN F hW inlX4 h.1 (cel_5 h.2) rfl (k := 1) (by decide) hl rfl rfl hd kk
theorem pe_5_1 {G : Ctx} {u : Mem} {a : Nat} {x : Int32} (h : mK u a = 5) : cel G (setI u 161 a x) a = .inr (5, [.int (mI u 160 a), .int x, .int (mI u 162 a), .int (mI u 163 a), va_rf (mR u 164 a), .int (mI u 165 a), .int (mI u 166 a)]) := by rw [cel_5 (u := setI u 161 a x) h]; simp [setI, setR, mI, mR]
theorem pf_5_1 (F : Fx p l s m args meth c cc nL "LanternDesk$Walk" G) (hW : Wd G u s H locs) (hnm : meth.name = "<init>") {x : Int32} (h : OB u a 5) (hl : Cond.fieldLink "LanternDesk$Walk" index "LanternDesk$Walk" "from" "I" ∈ wsL_law) (hd : decode cc pc = .ok (.putfield index, 3)) (kk : ∀ (H1 : Heap) (locs1 : List Loc), Wd G (setI u 161 a x) s H1 locs1 → W p l e R s m args below meth c H1 locs1 cells slots Q (F0 m (pc + 3) ls rest)) : W p l e R s m args below meth c H locs cells slots Q (F0 m pc ls (.int x :: .ref a :: rest)) := rPutF F hW (u' := setI u 161 a x) inlX4 tyX4_ok nmX4 h.1 (cel_5 h.2) rfl (k := 1) (by decide) hl rfl rfl rfl hnm (tyX4_ok 1 (by decide)) rfl rfl (show 1 < 7 by decide) rfl (up_I (pe_5_1 h.2)) hd kk
theorem gf_5_2 (F : Fx p l s m args meth c cc nL own G) (hW : Wd G u s H locs) (h : OB u a 5) (hl : Cond.fieldLink own index "LanternDesk$Walk" "to" "I" ∈ wsL_law) (hd : decode cc pc = .ok (.getfield index, 3)) (kk : W p l e R s m args below meth c H locs cells slots Q (F0 m (pc + 3) ls (.int (mI u 162 a) :: rest))) : W p l e R s m args below meth c H locs cells slots Q (F0 m pc ls (.ref a :: rest)) := rGet F hW inlX4 h.1 (cel_5 h.2) rfl (k := 2) (by decide) hl (fun _ h => h) rfl hd kk
theorem gn_5_2 (F : Fx p l s m args meth c cc nL own G) (hW : Wd G u s H locs) (h : OB u a 5) {host : String} (hl : (own, index, "LanternDesk$Walk", "to", "I", host) ∈ NF) (hd : decode cc pc = .ok (.getfield index, 3)) (kk : W p l e R s m args below meth c H locs cells slots Q (F0 m (pc + 3) ls (.int (mI u 162 a) :: rest))) : W p l e R s m args below meth c H locs cells slots Q (F0 m pc ls (.ref a :: rest)) := rGetN F hW inlX4 h.1 (cel_5 h.2) rfl (k := 2) (by decide) hl rfl rfl hd kk
theorem pe_5_2 {G : Ctx} {u : Mem} {a : Nat} {x : Int32} (h : mK u a = 5) : cel G (setI u 162 a x) a = .inr (5, [.int (mI u 160 a), .int (mI u 161 a), .int x, .int (mI u 163 a), va_rf (mR u 164 a), .int (mI u 165 a), .int (mI u 166 a)]) := by rw [cel_5 (u := setI u 162 a x) h]; simp [setI, setR, mI, mR]
theorem pf_5_2 (F : Fx p l s m args meth c cc nL "LanternDesk$Walk" G) (hW : Wd G u s H locs) (hnm : meth.name = "<init>") {x : Int32} (h : OB u a 5) (hl : Cond.fieldLink "LanternDesk$Walk" index "LanternDesk$Walk" "to" "I" ∈ wsL_law) (hd : decode cc pc = .ok (.putfield index, 3)) (kk : ∀ (H1 : Heap) (locs1 : List Loc), Wd G (setI u 162 a x) s H1 locs1 → W p l e R s m args below meth c H1 locs1 cells slots Q (F0 m (pc + 3) ls rest)) : W p l e R s m args below meth c H locs cells slots Q (F0 m pc ls (.int x :: .ref a :: rest)) := rPutF F hW (u' := setI u 162 a x) inlX4 tyX4_ok nmX4 h.1 (cel_5 h.2) rfl (k := 2) (by decide) hl rfl rfl rfl hnm (tyX4_ok 2 (by decide)) rfl rfl (show 2 < 7 by decide) rfl (up_I (pe_5_2 h.2)) hd kk
theorem gf_5_3 (F : Fx p l s m args meth c cc nL own G) (hW : Wd G u s H locs) (h : OB u a 5) (hl : Cond.fieldLink own index "LanternDesk$Walk" "state" "I" ∈ wsL_law) (hd : decode cc pc = .ok (.getfield index, 3)) (kk : W p l e R s m args below meth c H locs cells slots Q (F0 m (pc + 3) ls (.int (mI u 163 a) :: rest))) : W p l e R s m args below meth c H locs cells slots Q (F0 m pc ls (.ref a :: rest)) := rGet F hW inlX4 h.1 (cel_5 h.2) rfl (k := 3) (by decide) hl (fun _ h => h) rfl hd kk
theorem gn_5_3 (F : Fx p l s m args meth c cc nL own G) (hW : Wd G u s H locs) (h : OB u a 5) {host : String} (hl : (own, index, "LanternDesk$Walk", "state", "I", host) ∈ NF) (hd : decode cc pc = .ok (.getfield index, 3)) (kk : W p l e R s m args below meth c H locs cells slots Q (F0 m (pc + 3) ls (.int (mI u 163 a) :: rest))) : W p l e R s m args below meth c H locs cells slots Q (F0 m pc ls (.ref a :: rest)) := rGetN F hW inlX4 h.1 (cel_5 h.2) rfl (k := 3) (by decide) hl rfl rfl hd kk
theorem pe_5_3 {G : Ctx} {u : Mem} {a : Nat} {x : Int32} (h : mK u a = 5) : cel G (setI u 163 a x) a = .inr (5, [.int (mI u 160 a), .int (mI u 161 a), .int (mI u 162 a), .int x, va_rf (mR u 164 a), .int (mI u 165 a), .int (mI u 166 a)]) := by rw [cel_5 (u := setI u 163 a x) h]; simp [setI, setR, mI, mR]
theorem pf_5_3 (F : Fx p l s m args meth c cc nL own G) (hW : Wd G u s H locs) {x : Int32} (h : OB u a 5) (hl : Cond.fieldLink own index "LanternDesk$Walk" "state" "I" ∈ wsL_law) (hd : decode cc pc = .ok (.putfield index, 3)) (kk : ∀ (H1 : Heap) (locs1 : List Loc), Wd G (setI u 163 a x) s H1 locs1 → W p l e R s m args below meth c H1 locs1 cells slots Q (F0 m (pc + 3) ls rest)) : W p l e R s m args below meth c H locs cells slots Q (F0 m pc ls (.int x :: .ref a :: rest)) := rPut F hW (u' := setI u 163 a x) inlX4 tyX4_ok nmX4 h.1 (cel_5 h.2) rfl (k := 3) (by decide) hl (fun _ h => h) rfl (tyX4_ok 3 (by decide)) rfl rfl (show 3 < 7 by decide) rfl (up_I (pe_5_3 h.2)) hd kk
theorem pn_5_3 (F : Fx p l s m args meth c cc nL own G) (hW : Wd G u s H locs) {x : Int32} (h : OB u a 5) {host : String} (hl : (own, index, "LanternDesk$Walk", "state", "I", host) ∈ NF) (hd : decode cc pc = .ok (.putfield index, 3)) (kk : ∀ (H1 : Heap) (locs1 : List Loc), Wd G (setI u 163 a x) s H1 locs1 → W p l e R s m args below meth c H1 locs1 cells slots Q (F0 m (pc + 3) ls rest)) : W p l e R s m args below meth c H locs cells slots Q (F0 m pc ls (.int x :: .ref a :: rest)) := rPutN F hW (u' := setI u 163 a x) inlX4 tyX4_ok nmX4 h.1 (cel_5 h.2) rfl (k := 3) (by decide) hl rfl rfl (tyX4_ok 3 (by decide)) rfl rfl (show 3 < 7 by decide) rfl (up_I (pe_5_3 h.2)) hd kk
theorem gf_5_4 (F : Fx p l s m args meth c cc nL own G) (hW : Wd G u s H locs) (h : OB u a 5) (hl : Cond.fieldLink own index "LanternDesk$Walk" "escort" "LLanternDesk$Escort;" ∈ wsL_law) (hd : decode cc pc = .ok (.getfield index, 3)) (kk : W p l e R s m args below meth c H locs cells slots Q (F0 m (pc + 3) ls (va_rf (mR u 164 a) :: rest))) : W p l e R s m args below meth c H locs cells slots Q (F0 m pc ls (.ref a :: rest)) := rGet F hW inlX4 h.1 (cel_5 h.2) rfl (k := 4) (by decide) hl (fun _ h => h) rfl hd kk
theorem gn_5_4 (F : Fx p l s m args meth c cc nL own G) (hW : Wd G u s H locs) (h : OB u a 5) {host : String} (hl : (own, index, "LanternDesk$Walk", "escort", "LLanternDesk$Escort;", host) ∈ NF) (hd : decode cc pc = .ok (.getfield index, 3)) (kk : W p l e R s m args below meth c H locs cells slots Q (F0 m (pc + 3) ls (va_rf (mR u 164 a) :: rest))) : W p l e R s m args below meth c H locs cells slots Q (F0 m pc ls (.ref a :: rest)) := rGetN F hW inlX4 h.1 (cel_5 h.2) rfl (k := 4) (by decide) hl rfl rfl hd kk
theorem pe_5_4 {G : Ctx} {u : Mem} {a : Nat} {x : Option Nat} (h : mK u a = 5) : cel G (setR u 164 a x) a = .inr (5, [.int (mI u 160 a), .int (mI u 161 a), .int (mI u 162 a), .int (mI u 163 a), va_rf x, .int (mI u 165 a), .int (mI u 166 a)]) := by rw [cel_5 (u := setR u 164 a x) h]; simp [setI, setR, mI, mR]
theorem pf_5_4 (F : Fx p l s m args meth c cc nL own G) (hW : Wd G u s H locs) {x : Option Nat} (h : OB u a 5) (hl : Cond.fieldLink own index "LanternDesk$Walk" "escort" "LLanternDesk$Escort;" ∈ wsL_law) (hd : decode cc pc = .ok (.putfield index, 3)) (kk : ∀ (H1 : Heap) (locs1 : List Loc), Wd G (setR u 164 a x) s H1 locs1 → W p l e R s m args below meth c H1 locs1 cells slots Q (F0 m (pc + 3) ls rest)) : W p l e R s m args below meth c H locs cells slots Q (F0 m pc ls (va_rf x :: .ref a :: rest)) := rPut F hW (u' := setR u 164 a x) inlX4 tyX4_ok nmX4 h.1 (cel_5 h.2) rfl (k := 4) (by decide) hl (fun _ h => h) rfl (tyX4_ok 4 (by decide)) (by cases x <;> rfl) (by cases x <;> rfl) (show 4 < 7 by decide) rfl (up_R (pe_5_4 h.2)) hd kk
theorem pn_5_4 (F : Fx p l s m args meth c cc nL own G) (hW : Wd G u s H locs) {x : Option Nat} (h : OB u a 5) {host : String} (hl : (own, index, "LanternDesk$Walk", "escort", "LLanternDesk$Escort;", host) ∈ NF) (hd : decode cc pc = .ok (.putfield index, 3)) (kk : ∀ (H1 : Heap) (locs1 : List Loc), Wd G (setR u 164 a x) s H1 locs1 → W p l e R s m args below meth c H1 locs1 cells slots Q (F0 m (pc + 3) ls rest)) : W p l e R s m args below meth c H locs cells slots Q (F0 m pc ls (va_rf x :: .ref a :: rest)) := rPutN F hW (u' := setR u 164 a x) inlX4 tyX4_ok nmX4 h.1 (cel_5 h.2) rfl (k := 4) (by decide) hl rfl rfl (tyX4_ok 4 (by decide)) (by cases x <;> rfl) (by cases x <;> rfl) (show 4 < 7 by decide) rfl (up_R (pe_5_4 h.2)) hd kk
theorem gf_5_5 (F : Fx p l s m args meth c cc nL own G) (hW : Wd G u s H locs) (h : OB u a 5) (hl : Cond.fieldLink own index "LanternDesk$Walk" "minutesInDark" "I" ∈ wsL_law) (hd : decode cc pc = .ok (.getfield index, 3)) (kk : W p l e R s m args below meth c H locs cells slots Q (F0 m (pc + 3) ls (.int (mI u 165 a) :: rest))) : W p l e R s m args below meth c H locs cells slots Q (F0 m pc ls (.ref a :: rest)) := rGet F hW inlX4 h.1 (cel_5 h.2) rfl (k := 5) (by decide) hl (fun _ h => h) rfl hd kk
theorem gn_5_5 (F : Fx p l s m args meth c cc nL own G) (hW : Wd G u s H locs) (h : OB u a 5) {host : String} (hl : (own, index, "LanternDesk$Walk", "minutesInDark", "I", host) ∈ NF) (hd : decode cc pc = .ok (.getfield index, 3)) (kk : W p l e R s m args below meth c H locs cells slots Q (F0 m (pc + 3) ls (.int (mI u 165 a) :: rest))) : W p l e R s m args below meth c H locs cells slots Q (F0 m pc ls (.ref a :: rest)) := rGetN F hW inlX4 h.1 (cel_5 h.2) rfl (k := 5) (by decide) hl rfl rfl hd kk
theorem pe_5_5 {G : Ctx} {u : Mem} {a : Nat} {x : Int32} (h : mK u a = 5) : cel G (setI u 165 a x) a = .inr (5, [.int (mI u 160 a), .int (mI u 161 a), .int (mI u 162 a), .int (mI u 163 a), va_rf (mR u 164 a), .int x, .int (mI u 166 a)]) := by rw [cel_5 (u := setI u 165 a x) h]; simp [setI, setR, mI, mR]
theorem pf_5_5 (F : Fx p l s m args meth c cc nL own G) (hW : Wd G u s H locs) {x : Int32} (h : OB u a 5) (hl : Cond.fieldLink own index "LanternDesk$Walk" "minutesInDark" "I" ∈ wsL_law) (hd : decode cc pc = .ok (.putfield index, 3)) (kk : ∀ (H1 : Heap) (locs1 : List Loc), Wd G (setI u 165 a x) s H1 locs1 → W p l e R s m args below meth c H1 locs1 cells slots Q (F0 m (pc + 3) ls rest)) : W p l e R s m args below meth c H locs cells slots Q (F0 m pc ls (.int x :: .ref a :: rest)) := rPut F hW (u' := setI u 165 a x) inlX4 tyX4_ok nmX4 h.1 (cel_5 h.2) rfl (k := 5) (by decide) hl (fun _ h => h) rfl (tyX4_ok 5 (by decide)) rfl rfl (show 5 < 7 by decide) rfl (up_I (pe_5_5 h.2)) hd kk
theorem pn_5_5 (F : Fx p l s m args meth c cc nL own G) (hW : Wd G u s H locs) {x : Int32} (h : OB u a 5) {host : String} (hl : (own, index, "LanternDesk$Walk", "minutesInDark", "I", host) ∈ NF) (hd : decode cc pc = .ok (.putfield index, 3)) (kk : ∀ (H1 : Heap) (locs1 : List Loc), Wd G (setI u 165 a x) s H1 locs1 → W p l e R s m args below meth c H1 locs1 cells slots Q (F0 m (pc + 3) ls rest)) : W p l e R s m args below meth c H locs cells slots Q (F0 m pc ls (.int x :: .ref a :: rest)) := rPutN F hW (u' := setI u 165 a x) inlX4 tyX4_ok nmX4 h.1 (cel_5 h.2) rfl (k := 5) (by decide) hl rfl rfl (tyX4_ok 5 (by decide)) rfl rfl (show 5 < 7 by decide) rfl (up_I (pe_5_5 h.2)) hd kk
theorem gf_5_6 (F : Fx p l s m args meth c cc nL own G) (hW : Wd G u s H locs) (h : OB u a 5) (hl : Cond.fieldLink own index "LanternDesk$Walk" "isJudged" "Z" ∈ wsL_law) (hd : decode cc pc = .ok (.getfield index, 3)) (kk : W p l e R s m args below meth c H locs cells slots Q (F0 m (pc + 3) ls (.int (mI u 166 a) :: rest))) : W p l e R s m args below meth c H locs cells slots Q (F0 m pc ls (.ref a :: rest)) := rGet F hW inlX4 h.1 (cel_5 h.2) rfl (k := 6) (by decide) hl (fun _ h => h) rfl hd kk
theorem gn_5_6 (F : Fx p l s m args meth c cc nL own G) (hW : Wd G u s H locs) (h : OB u a 5) {host : String} (hl : (own, index, "LanternDesk$Walk", "isJudged", "Z", host) ∈ NF) (hd : decode cc pc = .ok (.getfield index, 3)) (kk : W p l e R s m args below meth c H locs cells slots Q (F0 m (pc + 3) ls (.int (mI u 166 a) :: rest))) : W p l e R s m args below meth c H locs cells slots Q (F0 m pc ls (.ref a :: rest)) := rGetN F hW inlX4 h.1 (cel_5 h.2) rfl (k := 6) (by decide) hl rfl rfl hd kk
theorem pe_5_6 {G : Ctx} {u : Mem} {a : Nat} {x : Int32} (h : mK u a = 5) : cel G (setI u 166 a x) a = .inr (5, [.int (mI u 160 a), .int (mI u 161 a), .int (mI u 162 a), .int (mI u 163 a), va_rf (mR u 164 a), .int (mI u 165 a), .int x]) := by rw [cel_5 (u := setI u 166 a x) h]; simp [setI, setR, mI, mR]
theorem pf_5_6 (F : Fx p l s m args meth c cc nL own G) (hW : Wd G u s H locs) {x : Int32} (h : OB u a 5) (hl : Cond.fieldLink own index "LanternDesk$Walk" "isJudged" "Z" ∈ wsL_law) (hz : x = 0 ∨ x = 1) (hd : decode cc pc = .ok (.putfield index, 3)) (kk : ∀ (H1 : Heap) (locs1 : List Loc), Wd G (setI u 166 a x) s H1 locs1 → W p l e R s m args below meth c H1 locs1 cells slots Q (F0 m (pc + 3) ls rest)) : W p l e R s m args below meth c H locs cells slots Q (F0 m pc ls (.int x :: .ref a :: rest)) := rPut F hW (u' := setI u 166 a x) inlX4 tyX4_ok nmX4 h.1 (cel_5 h.2) rfl (k := 6) (by decide) hl (fun _ h => h) rfl (tyX4_ok 6 (by decide)) (narZ hz) (fitZ hz) (show 6 < 7 by decide) rfl (up_I (pe_5_6 h.2)) hd kk
theorem pn_5_6 (F : Fx p l s m args meth c cc nL own G) (hW : Wd G u s H locs) {x : Int32} (h : OB u a 5) {host : String} (hl : (own, index, "LanternDesk$Walk", "isJudged", "Z", host) ∈ NF) (hz : x = 0 ∨ x = 1) (hd : decode cc pc = .ok (.putfield index, 3)) (kk : ∀ (H1 : Heap) (locs1 : List Loc), Wd G (setI u 166 a x) s H1 locs1 → W p l e R s m args below meth c H1 locs1 cells slots Q (F0 m (pc + 3) ls rest)) : W p l e R s m args below meth c H locs cells slots Q (F0 m pc ls (.int x :: .ref a :: rest)) := rPutN F hW (u' := setI u 166 a x) inlX4 tyX4_ok nmX4 h.1 (cel_5 h.2) rfl (k := 6) (by decide) hl rfl rfl (tyX4_ok 6 (by decide)) (narZ hz) (fitZ hz) (show 6 < 7 by decide) rfl (up_I (pe_5_6 h.2)) hd kk
theorem nw_5 (F : Fx p l s m args meth c cc nL own G) (hW : Wd G u s H locs) {mc ms : Nat} (hcl : Cond.classLink own index "LanternDesk$Walk" ∈ wsL_law) (hinst : Cond.instantiable "LanternDesk$Walk" 7 ∈ wsL_law) (hini : Cond.initialized "LanternDesk$Walk" ∈ wsL_law) (hbc : cells + mc = R.cells) (hbs : slots + ms = R.slots) (h1 : 1 ≤ mc) (h2 : 7 ≤ ms) (hd : decode cc pc = .ok (.new index, 3)) (kk : ∀ (q : Nat) (H1 : Heap), q ∉ mL u → Wd G (mNew u q 5 0) s H1 locs → W p l e R s m args below meth c H1 locs (cells + 1) (slots + 7) Q (F0 m (pc + 3) ls (.ref q :: rest))) : W p l e R s m args below meth c H locs cells slots Q (F0 m pc ls rest) := rNew F hW (fs := [.int 0, .int 0, .int 0, .int 0, .null, .int 0, .int 0]) inlX4 tyX4_ok hcl hinst hini rfl (fun j hj => by rcases (show j = 0 ∨ j = 1 ∨ j = 2 ∨ j = 3 ∨ j = 4 ∨ j = 5 ∨ j = 6 by omega) with rfl | rfl | rfl | rfl | rfl | rfl | rfl <;> rfl) (fun q => by rw [cel_5 (by simp [mNew, mK])]; simp [mNew, mI, mR, va_rf]) hbc hbs h1 h2 hd kk
theorem gf_6_0 (F : Fx p l s m args meth c cc nL own G) (hW : Wd G u s H locs) (h : OB u a 6) (hl : Cond.fieldLink own index "LanternDesk" "streets" "[LLanternDesk$Street;" ∈ wsL_law) (hd : decode cc pc = .ok (.getfield index, 3)) (kk : W p l e R s m args below meth c H locs cells slots Q (F0 m (pc + 3) ls (va_rf (mR u 192 a) :: rest))) : W p l e R s m args below meth c H locs cells slots Q (F0 m pc ls (.ref a :: rest)) := rGet F hW inlX5 h.1 (cel_6 h.2) rfl (k := 0) (by decide) hl (fun _ h => h) rfl hd kk
theorem pe_6_0 {G : Ctx} {u : Mem} {a : Nat} {x : Option Nat} (h : mK u a = 6) : cel G (setR u 192 a x) a = .inr (6, [va_rf x, va_rf (mR u 193 a), va_rf (mR u 194 a), va_rf (mR u 195 a), .int (mI u 196 a), .int (mI u 197 a)]) := by rw [cel_6 (u := setR u 192 a x) h]; simp [setI, setR, mI, mR]
theorem pf_6_0 (F : Fx p l s m args meth c cc nL "LanternDesk" G) (hW : Wd G u s H locs) (hnm : meth.name = "<init>") {x : Option Nat} (h : OB u a 6) (hl : Cond.fieldLink "LanternDesk" index "LanternDesk" "streets" "[LLanternDesk$Street;" ∈ wsL_law) (hd : decode cc pc = .ok (.putfield index, 3)) (kk : ∀ (H1 : Heap) (locs1 : List Loc), Wd G (setR u 192 a x) s H1 locs1 → W p l e R s m args below meth c H1 locs1 cells slots Q (F0 m (pc + 3) ls rest)) : W p l e R s m args below meth c H locs cells slots Q (F0 m pc ls (va_rf x :: .ref a :: rest)) := rPutF F hW (u' := setR u 192 a x) inlX5 tyX5_ok nmX5 h.1 (cel_6 h.2) rfl (k := 0) (by decide) hl rfl rfl rfl hnm (tyX5_ok 0 (by decide)) (by cases x <;> rfl) (by cases x <;> rfl) (show 0 < 6 by decide) rfl (up_R (pe_6_0 h.2)) hd kk
theorem gf_6_1 (F : Fx p l s m args meth c cc nL own G) (hW : Wd G u s H locs) (h : OB u a 6) (hl : Cond.fieldLink own index "LanternDesk" "escorts" "[LLanternDesk$Escort;" ∈ wsL_law) (hd : decode cc pc = .ok (.getfield index, 3)) (kk : W p l e R s m args below meth c H locs cells slots Q (F0 m (pc + 3) ls (va_rf (mR u 193 a) :: rest))) : W p l e R s m args below meth c H locs cells slots Q (F0 m pc ls (.ref a :: rest)) := rGet F hW inlX5 h.1 (cel_6 h.2) rfl (k := 1) (by decide) hl (fun _ h => h) rfl hd kk
theorem pe_6_1 {G : Ctx} {u : Mem} {a : Nat} {x : Option Nat} (h : mK u a = 6) : cel G (setR u 193 a x) a = .inr (6, [va_rf (mR u 192 a), va_rf x, va_rf (mR u 194 a), va_rf (mR u 195 a), .int (mI u 196 a), .int (mI u 197 a)]) := by rw [cel_6 (u := setR u 193 a x) h]; simp [setI, setR, mI, mR]
theorem pf_6_1 (F : Fx p l s m args meth c cc nL "LanternDesk" G) (hW : Wd G u s H locs) (hnm : meth.name = "<init>") {x : Option Nat} (h : OB u a 6) (hl : Cond.fieldLink "LanternDesk" index "LanternDesk" "escorts" "[LLanternDesk$Escort;" ∈ wsL_law) (hd : decode cc pc = .ok (.putfield index, 3)) (kk : ∀ (H1 : Heap) (locs1 : List Loc), Wd G (setR u 193 a x) s H1 locs1 → W p l e R s m args below meth c H1 locs1 cells slots Q (F0 m (pc + 3) ls rest)) : W p l e R s m args below meth c H locs cells slots Q (F0 m pc ls (va_rf x :: .ref a :: rest)) := rPutF F hW (u' := setR u 193 a x) inlX5 tyX5_ok nmX5 h.1 (cel_6 h.2) rfl (k := 1) (by decide) hl rfl rfl rfl hnm (tyX5_ok 1 (by decide)) (by cases x <;> rfl) (by cases x <;> rfl) (show 1 < 6 by decide) rfl (up_R (pe_6_1 h.2)) hd kk
theorem gf_6_2 (F : Fx p l s m args meth c cc nL own G) (hW : Wd G u s H locs) (h : OB u a 6) (hl : Cond.fieldLink own index "LanternDesk" "walks" "Ljava/util/ArrayList;" ∈ wsL_law) (hd : decode cc pc = .ok (.getfield index, 3)) (kk : W p l e R s m args below meth c H locs cells slots Q (F0 m (pc + 3) ls (va_rf (mR u 194 a) :: rest))) : W p l e R s m args below meth c H locs cells slots Q (F0 m pc ls (.ref a :: rest)) := rGet F hW inlX5 h.1 (cel_6 h.2) rfl (k := 2) (by decide) hl (fun _ h => h) rfl hd kk
theorem pe_6_2 {G : Ctx} {u : Mem} {a : Nat} {x : Option Nat} (h : mK u a = 6) : cel G (setR u 194 a x) a = .inr (6, [va_rf (mR u 192 a), va_rf (mR u 193 a), va_rf x, va_rf (mR u 195 a), .int (mI u 196 a), .int (mI u 197 a)]) := by rw [cel_6 (u := setR u 194 a x) h]; simp [setI, setR, mI, mR]
theorem pf_6_2 (F : Fx p l s m args meth c cc nL "LanternDesk" G) (hW : Wd G u s H locs) (hnm : meth.name = "<init>") {x : Option Nat} (h : OB u a 6) (hl : Cond.fieldLink "LanternDesk" index "LanternDesk" "walks" "Ljava/util/ArrayList;" ∈ wsL_law) (hd : decode cc pc = .ok (.putfield index, 3)) (kk : ∀ (H1 : Heap) (locs1 : List Loc), Wd G (setR u 194 a x) s H1 locs1 → W p l e R s m args below meth c H1 locs1 cells slots Q (F0 m (pc + 3) ls rest)) : W p l e R s m args below meth c H locs cells slots Q (F0 m pc ls (va_rf x :: .ref a :: rest)) := rPutF F hW (u' := setR u 194 a x) inlX5 tyX5_ok nmX5 h.1 (cel_6 h.2) rfl (k := 2) (by decide) hl rfl rfl rfl hnm (tyX5_ok 2 (by decide)) (by cases x <;> rfl) (by cases x <;> rfl) (show 2 < 6 by decide) rfl (up_R (pe_6_2 h.2)) hd kk
theorem gf_6_3 (F : Fx p l s m args meth c cc nL own G) (hW : Wd G u s H locs) (h : OB u a 6) (hl : Cond.fieldLink own index "LanternDesk" "album" "LLanternDesk$Album;" ∈ wsL_law) (hd : decode cc pc = .ok (.getfield index, 3)) (kk : W p l e R s m args below meth c H locs cells slots Q (F0 m (pc + 3) ls (va_rf (mR u 195 a) :: rest))) : W p l e R s m args below meth c H locs cells slots Q (F0 m pc ls (.ref a :: rest)) := rGet F hW inlX5 h.1 (cel_6 h.2) rfl (k := 3) (by decide) hl (fun _ h => h) rfl hd kk
theorem pe_6_3 {G : Ctx} {u : Mem} {a : Nat} {x : Option Nat} (h : mK u a = 6) : cel G (setR u 195 a x) a = .inr (6, [va_rf (mR u 192 a), va_rf (mR u 193 a), va_rf (mR u 194 a), va_rf x, .int (mI u 196 a), .int (mI u 197 a)]) := by rw [cel_6 (u := setR u 195 a x) h]; simp [setI, setR, mI, mR]
theorem pf_6_3 (F : Fx p l s m args meth c cc nL "LanternDesk" G) (hW : Wd G u s H locs) (hnm : meth.name = "<init>") {x : Option Nat} (h : OB u a 6) (hl : Cond.fieldLink "LanternDesk" index "LanternDesk" "album" "LLanternDesk$Album;" ∈ wsL_law) (hd : decode cc pc = .ok (.putfield index, 3)) (kk : ∀ (H1 : Heap) (locs1 : List Loc), Wd G (setR u 195 a x) s H1 locs1 → W p l e R s m args below meth c H1 locs1 cells slots Q (F0 m (pc + 3) ls rest)) : W p l e R s m args below meth c H locs cells slots Q (F0 m pc ls (va_rf x :: .ref a :: rest)) := rPutF F hW (u' := setR u 195 a x) inlX5 tyX5_ok nmX5 h.1 (cel_6 h.2) rfl (k := 3) (by decide) hl rfl rfl rfl hnm (tyX5_ok 3 (by decide)) (by cases x <;> rfl) (by cases x <;> rfl) (show 3 < 6 by decide) rfl (up_R (pe_6_3 h.2)) hd kk
theorem gf_6_4 (F : Fx p l s m args meth c cc nL own G) (hW : Wd G u s H locs) (h : OB u a 6) (hl : Cond.fieldLink own index "LanternDesk" "day" "I" ∈ wsL_law) (hd : decode cc pc = .ok (.getfield index, 3)) (kk : W p l e R s m args below meth c H locs cells slots Q (F0 m (pc + 3) ls (.int (mI u 196 a) :: rest))) : W p l e R s m args below meth c H locs cells slots Q (F0 m pc ls (.ref a :: rest)) := rGet F hW inlX5 h.1 (cel_6 h.2) rfl (k := 4) (by decide) hl (fun _ h => h) rfl hd kk
theorem pe_6_4 {G : Ctx} {u : Mem} {a : Nat} {x : Int32} (h : mK u a = 6) : cel G (setI u 196 a x) a = .inr (6, [va_rf (mR u 192 a), va_rf (mR u 193 a), va_rf (mR u 194 a), va_rf (mR u 195 a), .int x, .int (mI u 197 a)]) := by rw [cel_6 (u := setI u 196 a x) h]; simp [setI, setR, mI, mR]
theorem pf_6_4 (F : Fx p l s m args meth c cc nL own G) (hW : Wd G u s H locs) {x : Int32} (h : OB u a 6) (hl : Cond.fieldLink own index "LanternDesk" "day" "I" ∈ wsL_law) (hd : decode cc pc = .ok (.putfield index, 3)) (kk : ∀ (H1 : Heap) (locs1 : List Loc), Wd G (setI u 196 a x) s H1 locs1 → W p l e R s m args below meth c H1 locs1 cells slots Q (F0 m (pc + 3) ls rest)) : W p l e R s m args below meth c H locs cells slots Q (F0 m pc ls (.int x :: .ref a :: rest)) := rPut F hW (u' := setI u 196 a x) inlX5 tyX5_ok nmX5 h.1 (cel_6 h.2) rfl (k := 4) (by decide) hl (fun _ h => h) rfl (tyX5_ok 4 (by decide)) rfl rfl (show 4 < 6 by decide) rfl (up_I (pe_6_4 h.2)) hd kk
theorem gf_6_5 (F : Fx p l s m args meth c cc nL own G) (hW : Wd G u s H locs) (h : OB u a 6) (hl : Cond.fieldLink own index "LanternDesk" "minute" "I" ∈ wsL_law) (hd : decode cc pc = .ok (.getfield index, 3)) (kk : W p l e R s m args below meth c H locs cells slots Q (F0 m (pc + 3) ls (.int (mI u 197 a) :: rest))) : W p l e R s m args below meth c H locs cells slots Q (F0 m pc ls (.ref a :: rest)) := rGet F hW inlX5 h.1 (cel_6 h.2) rfl (k := 5) (by decide) hl (fun _ h => h) rfl hd kk
theorem pe_6_5 {G : Ctx} {u : Mem} {a : Nat} {x : Int32} (h : mK u a = 6) : cel G (setI u 197 a x) a = .inr (6, [va_rf (mR u 192 a), va_rf (mR u 193 a), va_rf (mR u 194 a), va_rf (mR u 195 a), .int (mI u 196 a), .int x]) := by rw [cel_6 (u := setI u 197 a x) h]; simp [setI, setR, mI, mR]
theorem pf_6_5 (F : Fx p l s m args meth c cc nL own G) (hW : Wd G u s H locs) {x : Int32} (h : OB u a 6) (hl : Cond.fieldLink own index "LanternDesk" "minute" "I" ∈ wsL_law) (hd : decode cc pc = .ok (.putfield index, 3)) (kk : ∀ (H1 : Heap) (locs1 : List Loc), Wd G (setI u 197 a x) s H1 locs1 → W p l e R s m args below meth c H1 locs1 cells slots Q (F0 m (pc + 3) ls rest)) : W p l e R s m args below meth c H locs cells slots Q (F0 m pc ls (.int x :: .ref a :: rest)) := rPut F hW (u' := setI u 197 a x) inlX5 tyX5_ok nmX5 h.1 (cel_6 h.2) rfl (k := 5) (by decide) hl (fun _ h => h) rfl (tyX5_ok 5 (by decide)) rfl rfl (show 5 < 6 by decide) rfl (up_I (pe_6_5 h.2)) hd kk
theorem nw_6 (F : Fx p l s m args meth c cc nL own G) (hW : Wd G u s H locs) {mc ms : Nat} (hcl : Cond.classLink own index "LanternDesk" ∈ wsL_law) (hinst : Cond.instantiable "LanternDesk" 6 ∈ wsL_law) (hini : Cond.initialized "LanternDesk" ∈ wsL_law) (hbc : cells + mc = R.cells) (hbs : slots + ms = R.slots) (h1 : 1 ≤ mc) (h2 : 6 ≤ ms) (hd : decode cc pc = .ok (.new index, 3)) (kk : ∀ (q : Nat) (H1 : Heap), q ∉ mL u → Wd G (mNew u q 6 0) s H1 locs → W p l e R s m args below meth c H1 locs (cells + 1) (slots + 6) Q (F0 m (pc + 3) ls (.ref q :: rest))) : W p l e R s m args below meth c H locs cells slots Q (F0 m pc ls rest) := rNew F hW (fs := [.null, .null, .null, .null, .int 0, .int 0]) inlX5 tyX5_ok hcl hinst hini rfl (fun j hj => by rcases (show j = 0 ∨ j = 1 ∨ j = 2 ∨ j = 3 ∨ j = 4 ∨ j = 5 by omega) with rfl | rfl | rfl | rfl | rfl | rfl <;> rfl) (fun q => by rw [cel_6 (by simp [mNew, mK])]; simp [mNew, mI, mR, va_rf]) hbc hbs h1 h2 hd kk
theorem pa_0_0 (F : Fx p l s m args meth c cc nL own G) (hW : Wd G u s H locs) {x : Int32} (h : OB u a 0) (hl : Cond.fieldLink own index "java/util/AbstractList" "modCount" "I" ∈ wsL_law) (hd : decode cc pc = .ok (.putfield index, 3)) (kk : ∀ (H1 : Heap) (locs1 : List Loc), Wd G (setI u 0 a x) s H1 locs1 → W p l e R s m args below meth c H1 locs1 cells slots Q (F0 m (pc + 3) ls rest)) : W p l e R s m args below meth c H locs cells slots Q (F0 m pc ls (.int x :: .ref a :: rest)) := rPut F hW (u' := setI u 0 a x) inlJx4a65c tyJx4a65c_ok nmJx4a65c h.1 (cel_0 h.2) rfl (k := 0) (by decide) hl (fun _ h => h) rfl (tyJx4a65c_ok 0 (by decide)) rfl rfl (show 0 < 3 by decide) rfl (up_I (pe_0_0 h.2)) hd kk
theorem rSlen (F : Fx p l s m args meth c cc nL own G) (hW : Wd G u s H locs) (h : a = G.2.2 3) (hd : decode cc pc = .ok (.arraylength, 1)) (kk : W p l e R s m args below meth c H locs cells slots Q (F0 m (pc + 1) ls (.int (nI (G.2.2 4)) :: rest))) : W p l e R s m args below meth c H locs cells slots Q (F0 m pc ls (.ref a :: rest)) := by
  subst h
  have hk := F.2.1.2.2.2.2.2.2.2.2.2.2.2.2.2
  exact va_slen F.1.1 F.1.2.1 hk.2.1 (Nat.lt_of_lt_of_le hk.2.2 hk.1) (A := Ab G) (Nat.not_le.mpr hk.2.2) hW.2 hd kk
theorem rSld (F : Fx p l s m args meth c cc nL own G) (hW : Wd G u s H locs) {i : Int32} (h : a = G.2.2 3) (hin : vp_in i (G.2.2 4)) (hd : decode cc pc = .ok (.iaload, 1)) (kk : W p l e R s m args below meth c H locs cells slots Q (F0 m (pc + 1) ls (.int (nI (G.2.2 (5 + i.toNatClampNeg))) :: rest))) : W p l e R s m args below meth c H locs cells slots Q (F0 m pc ls (.int i :: .ref a :: rest)) := by
  subst h
  have hk := F.2.1.2.2.2.2.2.2.2.2.2.2.2.2.2
  exact va_sld F.1.1 F.1.2.1 hk.2.1 (Nat.lt_of_lt_of_le hk.2.2 hk.1) (A := Ab G) (Nat.not_le.mpr hk.2.2) hW.2 hin hd kk
end RWS
end
section
/-! contracts over the store: from the store u to one that K allows (I: an int comes back, V: nothing, Q: a reference or null; X: or it throws) -/
def CtI (l : Launch) (y : MethodName) (cw : Cond) (fr lo mc ms : Nat) (G : Ctx) (vs : List Value) (u : Mem) (K : Int32 → Mem → Prop) : Prop := Met l y (cw :: wsL_law) { frames := fr, cells := mc, slots := ms, locals := lo } (va_Pc vs (fun U => Kf G U U.heap ∧ Wp G u U.heap)) (va_Qi K (fun u' t => Wp G u' t.heap) (Ab G)) mc ms (Ab G)
def CtV (l : Launch) (y : MethodName) (cw : Cond) (fr lo mc ms : Nat) (G : Ctx) (vs : List Value) (u : Mem) (K : Mem → Prop) : Prop := Met l y (cw :: wsL_law) { frames := fr, cells := mc, slots := ms, locals := lo } (va_Pc vs (fun U => Kf G U U.heap ∧ Wp G u U.heap)) (va_Qv K (fun u' t => Wp G u' t.heap) (Ab G)) mc ms (Ab G)
def CtQ (l : Launch) (y : MethodName) (cw : Cond) (fr lo mc ms : Nat) (G : Ctx) (vs : List Value) (u : Mem) (K : Option Nat → Mem → Prop) : Prop := Met l y (cw :: wsL_law) { frames := fr, cells := mc, slots := ms, locals := lo } (va_Pc vs (fun U => Kf G U U.heap ∧ Wp G u U.heap)) (va_Qq K (fun u' t => Wp G u' t.heap) (Ab G)) mc ms (Ab G)
def XCt (G : Ctx) (X : String → Mem → Prop) : String → State → State → Prop := vx_X (fun z : String × Mem => X z.1 z.2) (fun E z t => z.1 = E ∧ Wp G z.2 t.heap) (Ab G)
def CtX (l : Launch) (y : MethodName) (cw : Cond) (fr lo mc ms : Nat) (G : Ctx) (vs : List Value) (u : Mem) (K : Int32 → Mem → Prop) (X : String → Mem → Prop) : Prop := vx_Met l y (cw :: wsL_law) { frames := fr, cells := mc, slots := ms, locals := lo } (va_Pc vs (fun U => Kf G U U.heap ∧ Wp G u U.heap)) (va_Qi K (fun u' t => Wp G u' t.heap) (Ab G)) (XCt G X) mc ms (Ab G)
theorem blind {G : Ctx} {vs : List Value} {u : Mem} : FrameBlind (va_Pc vs (fun U => Kf G U U.heap ∧ Wp G u U.heap)) := fun a U g mk ⟨h1, h2, h3⟩ => ⟨h1, h2.moved (U := U.calling g mk a) (State.WarmedH.refl U) (Nat.le_refl _) (fun _ _ _ => rfl), h3⟩
theorem good_all : ∀ w ∈ wsL_law, ((w.onTables && w.keeps) = true ∨ ∃ ty, w = .arrayClass ty) := fun w h => good_of_word (List.all_eq_true.mp q_good w h)
theorem gd_one {w : Cond} (h : w ∈ wsL_law) : GoodIn wsL_law [w] := fun v hv => by
  rw [List.mem_singleton.mp hv]
  exact ⟨h, good_all _ h⟩
theorem gd_cons {w : Cond} {ws : List Cond} (h : w ∈ wsL_law) (h2 : GoodIn wsL_law ws) : GoodIn wsL_law (w :: ws) := fun v hv => by
  rcases List.mem_cons.mp hv with rfl | hv
  · exact ⟨h, good_all _ h⟩
  · exact h2 v hv
theorem gd_all : GoodIn wsL_law wsL_law := fun v hv => ⟨hv, good_all _ hv⟩
theorem met_vx {l : Launch} {y : MethodName} {ws : List Cond} {rm : Room} {Pc : Array Value → State → Prop} {Qc : Array Value → State → Outcome → State → Prop} {mc ms : Nat} {free : Addr → Prop} {G : Ctx} (h : vx_Met l y ws rm Pc Qc (XCt G (fun _ _ => False)) mc ms free) : Met l y ws rm Pc Qc mc ms free := fun p e ha hc hk s m args below hf hap hp hK => by
  obtain ⟨n, o, h1, h2, h3, h4⟩ := h p e ha hc hk s m args below hf hap hp hK
  refine ⟨n, o, h1, h2, h3, ?_⟩
  rcases h4 with h4 | ⟨q, _, E, ce, L, ⟨z, hz, _⟩, _⟩
  · exact h4
  · exact hz.elim
section CLS
variable {p : Program} {l : Launch} {e : Env} {R : Room} {s : State} {m : MethodId} {args : Array Value} {below : List Frame} {meth : Method} {c : Code} {H : Heap} {locs : List Loc} {cells slots : Nat} {Q : State → Prop}
variable {cc : ByteArray} {pc nL : Nat} {ls : Array Slot} {rest st : List Value} {own : String} {G : Ctx} {u : Mem} {a index : Nat} {y : MethodName} {bytes : ByteArray} {maxL fr lo mc ms n : Nat} {ret : Option FieldType} {As : List Value} {C : String} {T : u_T} {N ci : Nat}
theorem ob_cel (h : OB u a ci) (hc : ci < 7) : ∃ fs, cel G u a = .inr (ci, fs) := by
  obtain ⟨_, h⟩ := h
  rcases (show ci = 0 ∨ ci = 1 ∨ ci = 2 ∨ ci = 3 ∨ ci = 4 ∨ ci = 5 ∨ ci = 6 by omega) with rfl | rfl | rfl | rfl | rfl | rfl | rfl
  · exact ⟨_, cel_0 h⟩
  · exact ⟨_, cel_1 h⟩
  · exact ⟨_, cel_2 h⟩
  · exact ⟨_, cel_3 h⟩
  · exact ⟨_, cel_4 h⟩
  · exact ⟨_, cel_5 h⟩
  · exact ⟨_, cel_6 h⟩
theorem bdg {c m M k : Nat} (h : c + m = M) (hk : k ≤ m) : (c + k) + (m - k) = M := by omega
theorem bdf {c m M k : Nat} (h : c + m = M) (hk : k ≤ m) : c + k ≤ M := by omega
theorem ob_recv (F : Fx p l s m args meth c cc nL own G) (hW : Wd G u s H locs) (h : OB u a ci) (hc : vwCl[ci]? = some (C, T, N)) : ∃ cell : Cell, H[a]? = some cell ∧ cell.vm.isStatics = false ∧ s.vm.findClass C = some cell.cls := by
  obtain ⟨fs, he⟩ := ob_cel (G := G) h (List.getElem?_eq_some_iff.mp hc).1
  obtain ⟨k, hk⟩ := wAt h.1 he
  exact va_recv (q := (C, T, N)) F.2.1.1 hW.1.1 hc hk
theorem runV {Qc : Array Value → State → Outcome → State → Prop} (F : Fx p l s m args meth c cc nL own G) (hW : Wd G u s H locs) (hM : Met l y (.code y bytes maxL ret :: wsL_law) { frames := fr, cells := mc, slots := ms, locals := lo } (va_Pc (.ref a :: As) (fun U => Kf G U U.heap ∧ Wp G u U.heap)) Qc mc ms (Ab G)) (hob : OB u a ci) (hci : vwCl[ci]? = some (C, T, N)) (q1 : Cond.methodLink own index y ∈ wsL_law) (q2 : Cond.instanceMethod y ∈ wsL_law) (q3 : Cond.selects C y y ∈ wsL_law) (q4 : Cond.initialized C ∈ wsL_law) (q5 : Cond.code y bytes maxL ret ∈ wsL_law) (h0 : y.cls = C) (hy : y.cls ≠ "java/lang/invoke/MethodHandle" ∧ y.cls ≠ "java/lang/invoke/VarHandle" ∧ (parseMethodDescriptor y.desc).map (fun d => d.parameters.length) = some n) (hR : fr + 1 ≤ R.frames ∧ 8 + (maxL + 11) + lo ≤ R.locals) (hd : decode cc pc = .ok (.invokevirtual index, 3)) (hn : As.length = n) (hsz : ls.size = nL) (hcat : (rest.map fun v => v.category).sum ≤ 8) (hf : cells + mc ≤ R.cells ∧ slots + ms ≤ R.slots) : va_Run p l e R s m args below meth c H locs cells slots mc ms (F0 m pc ls (As.reverse ++ .ref a :: rest)) rest (Qc (.ref a :: As).toArray) (Ab G) :=
  va_runV F.1 hM (cwV n F.1.2.2.2.2 (gd_cons q1 (gd_cons q2 (gd_cons q3 (gd_cons q4 (gd_cons q5 gd_all))))) rfl rfl rfl ⟨h0, hy⟩ hR) ⟨blind, ob_recv F hW hob hci, fun U hU hw => ⟨rfl, hW.kf F hU hw, by rw [hU]; exact hW.1⟩⟩ rfl hn hsz rfl (lv_room hcat) hd hf
theorem runS {Qc : Array Value → State → Outcome → State → Prop} (F : Fx p l s m args meth c cc nL own G) (hW : Wd G u s H locs) (hM : Met l y (.code y bytes maxL ret :: wsL_law) { frames := fr, cells := mc, slots := ms, locals := lo } (va_Pc As (fun U => Kf G U U.heap ∧ Wp G u U.heap)) Qc mc ms (Ab G)) (q1 : Cond.methodLink own index y ∈ wsL_law) (q2 : Cond.static y ∈ wsL_law) (q4 : Cond.initialized y.cls ∈ wsL_law) (q5 : Cond.code y bytes maxL ret ∈ wsL_law) (hy : y.cls ≠ "java/lang/invoke/MethodHandle" ∧ y.cls ≠ "java/lang/invoke/VarHandle" ∧ (parseMethodDescriptor y.desc).map (fun d => d.parameters.length) = some n) (hR : fr + 1 ≤ R.frames ∧ 8 + (maxL + 11) + lo ≤ R.locals) (hd : decode cc pc = .ok (.invokestatic index, 3)) (hn : As.length = n) (hsz : ls.size = nL) (hcat : (rest.map fun v => v.category).sum ≤ 8) (hf : cells + mc ≤ R.cells ∧ slots + ms ≤ R.slots) : va_Run p l e R s m args below meth c H locs cells slots mc ms (F0 m pc ls (As.reverse ++ rest)) rest (Qc (As).toArray) (Ab G) :=
  va_runS F.1 hM (va_cwS n F.1.2.2.2.2 (gd_cons q1 (gd_cons q2 (gd_cons q4 (gd_cons q5 gd_all)))) rfl rfl rfl hy hR) ⟨blind, fun U hU hw => ⟨rfl, hW.kf F hU hw, by rw [hU]; exact hW.1⟩⟩ rfl hn hsz rfl (lv_room hcat) hd hf
theorem runI {Qc : Array Value → State → Outcome → State → Prop} (F : Fx p l s m args meth c cc nL own G) (hW : Wd G u s H locs) (hM : Met l y (.code y bytes maxL none :: wsL_law) { frames := fr, cells := mc, slots := ms, locals := lo } (va_Pc (.ref a :: As) (fun U => Kf G U U.heap ∧ Wp G u U.heap)) Qc mc ms (Ab G)) (q1 : Cond.methodLink own index y ∈ wsL_law) (q2 : Cond.instanceMethod y ∈ wsL_law) (q4 : Cond.initialized y.cls ∈ wsL_law) (q5 : Cond.code y bytes maxL none ∈ wsL_law) (h0 : y.name = "<init>") (hy : y.cls ≠ "java/lang/invoke/MethodHandle" ∧ y.cls ≠ "java/lang/invoke/VarHandle" ∧ (parseMethodDescriptor y.desc).map (fun d => d.parameters.length) = some n) (hR : fr + 1 ≤ R.frames ∧ 8 + (maxL + 11) + lo ≤ R.locals) (hd : decode cc pc = .ok (.invokespecial index, 3)) (hn : As.length = n) (hsz : ls.size = nL) (hcat : (rest.map fun v => v.category).sum ≤ 8) (hf : cells + mc ≤ R.cells ∧ slots + ms ≤ R.slots) : va_Run p l e R s m args below meth c H locs cells slots mc ms (F0 m pc ls (As.reverse ++ .ref a :: rest)) rest (Qc (.ref a :: As).toArray) (Ab G) :=
  va_runI F.1 hM (cwI n F.1.2.2.2.2 (gd_cons q5 gd_all) rfl rfl rfl (F.1.2.2.2.2 _ q4) (F.1.2.2.2.2 _ q1) (F.1.2.2.2.2 _ q2) h0 hy hR) ⟨blind, fun U hU hw => ⟨rfl, hW.kf F hU hw, by rw [hU]; exact hW.1⟩⟩ rfl hn hsz rfl (lv_room hcat) hd hf
theorem runIN {Qc : Array Value → State → Outcome → State → Prop} (F : Fx p l s m args meth c cc nL own G) (hW : Wd G u s H locs) {host : String} (hM : Met l y (.code y bytes maxL none :: wsL_law) { frames := fr, cells := mc, slots := ms, locals := lo } (va_Pc (.ref a :: As) (fun U => Kf G U U.heap ∧ Wp G u U.heap)) Qc mc ms (Ab G)) (q1 : (own, index, y, host) ∈ NM) (q2 : Cond.instanceMethod y ∈ wsL_law) (q4 : Cond.initialized y.cls ∈ wsL_law) (q5 : Cond.code y bytes maxL none ∈ wsL_law) (h0 : y.name = "<init>") (hy : y.cls ≠ "java/lang/invoke/MethodHandle" ∧ y.cls ≠ "java/lang/invoke/VarHandle" ∧ (parseMethodDescriptor y.desc).map (fun d => d.parameters.length) = some n) (hR : fr + 1 ≤ R.frames ∧ 8 + (maxL + 11) + lo ≤ R.locals) (hd : decode cc pc = .ok (.invokespecial index, 3)) (hn : As.length = n) (hsz : ls.size = nL) (hcat : (rest.map fun v => v.category).sum ≤ 8) (hf : cells + mc ≤ R.cells ∧ slots + ms ≤ R.slots) : va_Run p l e R s m args below meth c H locs cells slots mc ms (F0 m pc ls (As.reverse ++ .ref a :: rest)) rest (Qc (.ref a :: As).toArray) (Ab G) :=
  va_runIN F.1 hM ⟨va_cnB (host := host) n F.1.2.2.2.2 (gd_cons q5 gd_all) rfl rfl rfl (F.2.1.2.2.1 _ q1) (F.1.2.2.2.2 _ q4) hy hR, h0, F.1.2.2.2.2 _ q2⟩ ⟨blind, fun U hU hw => ⟨rfl, hW.kf F hU hw, by rw [hU]; exact hW.1⟩⟩ rfl hn hsz rfl (lv_room hcat) hd hf
theorem runSW {Qc : Array Value → State → Outcome → State → Prop} (F : Fx p l s m args meth c cc nL own G) (hW : Wd G u s H locs) {hh : List (Nat × Nat × Nat × Nat)} (hM : Met l y (.codeWith y bytes maxL ret hh :: wsL_law) { frames := fr, cells := mc, slots := ms, locals := lo } (va_Pc As (fun U => Kf G U U.heap ∧ Wp G u U.heap)) Qc mc ms (Ab G)) (q1 : Cond.methodLink own index y ∈ wsL_law) (q2 : Cond.static y ∈ wsL_law) (q4 : Cond.initialized y.cls ∈ wsL_law) (q5 : Cond.codeWith y bytes maxL ret hh ∈ wsL_law) (hy : y.cls ≠ "java/lang/invoke/MethodHandle" ∧ y.cls ≠ "java/lang/invoke/VarHandle" ∧ (parseMethodDescriptor y.desc).map (fun d => d.parameters.length) = some n) (hR : fr + 1 ≤ R.frames ∧ 8 + (maxL + 11) + lo ≤ R.locals) (hd : decode cc pc = .ok (.invokestatic index, 3)) (hn : As.length = n) (hsz : ls.size = nL) (hcat : (rest.map fun v => v.category).sum ≤ 8) (hf : cells + mc ≤ R.cells ∧ slots + ms ≤ R.slots) : va_Run p l e R s m args below meth c H locs cells slots mc ms (F0 m pc ls (As.reverse ++ rest)) rest (Qc (As).toArray) (Ab G) :=
  vx_runSW F.1 hM (vx_cwSW n F.1.2.2.2.2 (gd_cons q1 (gd_cons q2 (gd_cons q4 (gd_cons q5 gd_all)))) rfl rfl rfl hy hR) ⟨blind, fun U hU hw => ⟨rfl, hW.kf F hU hw, by rw [hU]; exact hW.1⟩⟩ rfl hn hsz rfl (lv_room hcat) hd hf
theorem cI {K : Int32 → Mem → Prop} {av : Array Value} (hr : va_Run p l e R s m args below meth c H locs cells slots mc ms (F0 m pc ls st) rest (va_Qi K (fun u' t => Wp G u' t.heap) (Ab G) av) (Ab G)) (hW : Wd G u s H locs) (kk : ∀ (r : Int32) (u' : Mem), K r u' → ∀ (H1 : Heap) (locs1 : List Loc), Wd G u' s H1 locs1 → W p l e R s m args below meth c H1 locs1 (cells + mc) (slots + ms) Q (F0 m (pc + 3) ls (.int r :: rest))) : W p l e R s m args below meth c H locs cells slots Q (F0 m pc ls st) :=
  va_calli hr hW.2 (fun q _ h => h) (fun q h => h) (fun r u' t H1 locs1 ht _ hk hb _ _ hS => kk r u' hk H1 locs1 ⟨by rw [← ht]; exact hb, hS⟩)
theorem cV {K : Mem → Prop} {av : Array Value} (hr : va_Run p l e R s m args below meth c H locs cells slots mc ms (F0 m pc ls st) rest (va_Qv K (fun u' t => Wp G u' t.heap) (Ab G) av) (Ab G)) (hW : Wd G u s H locs) (kk : ∀ (u' : Mem), K u' → ∀ (H1 : Heap) (locs1 : List Loc), Wd G u' s H1 locs1 → W p l e R s m args below meth c H1 locs1 (cells + mc) (slots + ms) Q (F0 m (pc + 3) ls rest)) : W p l e R s m args below meth c H locs cells slots Q (F0 m pc ls st) :=
  va_callv hr hW.2 (fun q _ h => h) (fun q h => h) (fun u' t H1 locs1 ht _ hk hb _ _ hS => kk u' hk H1 locs1 ⟨by rw [← ht]; exact hb, hS⟩)
theorem cQ {K : Option Nat → Mem → Prop} {av : Array Value} (hr : va_Run p l e R s m args below meth c H locs cells slots mc ms (F0 m pc ls st) rest (va_Qq K (fun u' t => Wp G u' t.heap) (Ab G) av) (Ab G)) (hW : Wd G u s H locs) (kk : ∀ (r : Option Nat) (u' : Mem), K r u' → ∀ (H1 : Heap) (locs1 : List Loc), Wd G u' s H1 locs1 → W p l e R s m args below meth c H1 locs1 (cells + mc) (slots + ms) Q (F0 m (pc + 3) ls (va_rf r :: rest))) : W p l e R s m args below meth c H locs cells slots Q (F0 m pc ls st) :=
  va_callq hr hW.2 (fun q _ h => h) (fun q h => h) (fun r u' t H1 locs1 ht _ hk hb _ _ hS => kk r u' hk H1 locs1 ⟨by rw [← ht]; exact hb, hS⟩)
/-- a call that may throw: what is thrown is an object of the class E, over the frame -/
def Thr (p : Program) (l : Launch) (e : Env) (R : Room) (s : State) (m : MethodId) (args : Array Value) (below : List Frame) (meth : Method) (c : Code) (H : Heap) (locs : List Loc) (cells slots : Nat) (Q : State → Prop) (g : JFrame) (E : String) : Prop := ∀ (q : Addr) (ce : Cell), H[q]? = some ce → ce.vm = .none → s.vm.findClass E = some ce.cls → vx_W p l e R s m args below meth c H locs cells slots Q g q
theorem cX {K : Int32 → Mem → Prop} {X : String → Mem → Prop} {av : Array Value} (hr : vx_Run p l e R s m args below meth c H locs cells slots mc ms (F0 m pc ls st) rest (va_Qi K (fun u' t => Wp G u' t.heap) (Ab G) av) (XCt G X) (Ab G)) (hW : Wd G u s H locs) (kk : ∀ (r : Int32) (u' : Mem), K r u' → ∀ (H1 : Heap) (locs1 : List Loc), Wd G u' s H1 locs1 → W p l e R s m args below meth c H1 locs1 (cells + mc) (slots + ms) Q (F0 m (pc + 3) ls (.int r :: rest))) (kx : ∀ (E : String) (u' : Mem), X E u' → ∀ (H1 : Heap) (locs1 : List Loc), Wd G u' s H1 locs1 → Thr p l e R s m args below meth c H1 locs1 (cells + mc) (slots + ms) Q (F0 m pc ls rest) E) : W p l e R s m args below meth c H locs cells slots Q (F0 m pc ls st) :=
  vx_calli hr hW.2 (fun q _ h => h) (fun q h => h) (fun q _ h => h) (fun E ce q9 z t H1 locs1 ht _ hx hb _ _ hS g1 g2 g3 => kx E z.2 (by rw [← hb.1]; exact hx) H1 locs1 ⟨by rw [← ht]; exact hb.2, hS⟩ q9 ce g1 g2 g3) (fun r u' t H1 locs1 ht _ hk hb _ _ hS => kk r u' hk H1 locs1 ⟨by rw [← ht]; exact hb, hS⟩)
theorem runX {Qc : Array Value → State → Outcome → State → Prop} {XC : String → State → State → Prop} (F : Fx p l s m args meth c cc nL own G) (hW : Wd G u s H locs) (hM : vx_Met l y (.code y bytes maxL ret :: wsL_law) { frames := fr, cells := mc, slots := ms, locals := lo } (va_Pc (.ref a :: As) (fun U => Kf G U U.heap ∧ Wp G u U.heap)) Qc XC mc ms (Ab G)) (hob : OB u a ci) (hci : vwCl[ci]? = some (C, T, N)) (q1 : Cond.methodLink own index y ∈ wsL_law) (q2 : Cond.instanceMethod y ∈ wsL_law) (q3 : Cond.selects C y y ∈ wsL_law) (q4 : Cond.initialized C ∈ wsL_law) (q5 : Cond.code y bytes maxL ret ∈ wsL_law) (h0 : y.cls = C) (hy : y.cls ≠ "java/lang/invoke/MethodHandle" ∧ y.cls ≠ "java/lang/invoke/VarHandle" ∧ (parseMethodDescriptor y.desc).map (fun d => d.parameters.length) = some n) (hR : fr + 1 ≤ R.frames ∧ 8 + (maxL + 11) + lo ≤ R.locals) (hd : decode cc pc = .ok (.invokevirtual index, 3)) (hn : As.length = n) (hsz : ls.size = nL) (hcat : (rest.map fun v => v.category).sum ≤ 8) (hf : cells + mc ≤ R.cells ∧ slots + ms ≤ R.slots) : vx_Run p l e R s m args below meth c H locs cells slots mc ms (F0 m pc ls (As.reverse ++ .ref a :: rest)) rest (Qc (.ref a :: As).toArray) XC (Ab G) :=
  vx_runV F.1 hM (cwV n F.1.2.2.2.2 (gd_cons q1 (gd_cons q2 (gd_cons q3 (gd_cons q4 (gd_cons q5 gd_all))))) rfl rfl rfl ⟨h0, hy⟩ hR) ⟨blind, ob_recv F hW hob hci, fun U hU hw => ⟨rfl, hW.kf F hU hw, by rw [hU]; exact hW.1⟩⟩ rfl hn hsz rfl (lv_room hcat) hd hf
theorem retI (F : Fx p l s m args meth c cc nL own G) (hr : meth.sig.returnType = some .int) (hW : Wd G u s H locs) {K : Int32 → Mem → Prop} {v : Int32} (hk : K v u) (hd : decode cc pc = .ok (.ireturn, 1)) : W p l e R s m args below meth c H locs cells slots (MQ below (va_Qi K (fun u' t => Wp G u' t.heap) (Ab G)) args s cells slots (Ab G)) (F0 m pc ls [.int v]) :=
  W.iret F.1.1 F.1.2.1 hr (fun t ht _ => ⟨⟨v, u, rfl, hk, by show Wp G u t.heap; rw [ht]; exact hW.1⟩, hW.2.F ht⟩) hW.2.2.2 hd F.2.2.1
theorem retZ (F : Fx p l s m args meth c cc nL own G) (hr : meth.sig.returnType = some .boolean) (hW : Wd G u s H locs) {K : Int32 → Mem → Prop} {v : Int32} (hz : v = 0 ∨ v = 1) (hk : K v u) (hd : decode cc pc = .ok (.ireturn, 1)) : W p l e R s m args below meth c H locs cells slots (MQ below (va_Qi K (fun u' t => Wp G u' t.heap) (Ab G)) args s cells slots (Ab G)) (F0 m pc ls [.int v]) :=
  W.zret F.1.1 F.1.2.1 hr (narZ hz) (fun t ht _ => ⟨⟨v, u, rfl, hk, by show Wp G u t.heap; rw [ht]; exact hW.1⟩, hW.2.F ht⟩) hW.2.2.2 hd F.2.2.1
theorem retV (F : Fx p l s m args meth c cc nL own G) (hr : meth.sig.returnType = none) (hW : Wd G u s H locs) {K : Mem → Prop} (hk : K u) (hd : decode cc pc = .ok (.return_, 1)) : W p l e R s m args below meth c H locs cells slots (MQ below (va_Qv K (fun u' t => Wp G u' t.heap) (Ab G)) args s cells slots (Ab G)) (F0 m pc ls []) :=
  W.vret F.1.1 F.1.2.1 hr (fun t ht _ => ⟨⟨u, rfl, hk, by show Wp G u t.heap; rw [ht]; exact hW.1⟩, hW.2.F ht⟩) hW.2.2.2 hd F.2.2.1
theorem retQ (F : Fx p l s m args meth c cc nL own G) {rt : FieldType} (hr : meth.sig.returnType = some rt) (hrt : (∃ n, rt = .object n) ∨ ∃ t, rt = .array t) (hW : Wd G u s H locs) {K : Option Nat → Mem → Prop} {v : Option Nat} (hk : K v u) (hd : decode cc pc = .ok (.areturn, 1)) : W p l e R s m args below meth c H locs cells slots (MQ below (va_Qq K (fun u' t => Wp G u' t.heap) (Ab G)) args s cells slots (Ab G)) (F0 m pc ls [va_rf v]) :=
  W.aret F.1.1 F.1.2.1 hr hrt (va_rf_or v) (fun t ht _ => ⟨⟨v, u, rfl, hk, by show Wp G u t.heap; rw [ht]; exact hW.1⟩, hW.2.F ht⟩) hW.2.2.2 hd F.2.2.1
theorem rStn {k : Fin 4} {i : Nat} {r : Option Nat} {lv lv' : List (Nat × Value)} (F : Fx p l s m args meth c cc nL own G) (hd : decode cc pc = .ok (.astore_n k, 1)) (hi : (k : Nat) = i) (h : lv_has ls nL lv) (hn : i < nL) (hl : (i, va_rf r) :: lv.filter (fun q => !(q.1 == i) && !(q.1 + 1 == i && q.2.category == 2)) = lv') (kk : ∀ ls' : Array Slot, lv_has ls' nL lv' → W p l e R s m args below meth c H locs cells slots Q (F0 m (pc + 1) ls' rest)) : W p l e R s m args below meth c H locs cells slots Q (F0 m pc ls (va_rf r :: rest)) := by
  cases r with
  | none => exact lv_astore_nN F.1.1 F.1.2.1 hd hi h hn hl kk
  | some x => exact lv_astore_n F.1.1 F.1.2.1 hd hi h hn hl kk
theorem rLdn {k : Fin 4} {i : Nat} {r : Option Nat} (F : Fx p l s m args meth c cc nL own G) (hd : decode cc pc = .ok (.aload_n k, 1)) (hi : (k : Nat) = i) (hl : ls[i]? = some (.val (va_rf r))) (kk : W p l e R s m args below meth c H locs cells slots Q (F0 m (pc + 1) ls (va_rf r :: rest))) : W p l e R s m args below meth c H locs cells slots Q (F0 m pc ls rest) := by
  cases r with
  | none => exact lv_aload_nN F.1.1 F.1.2.1 hd hi hl kk
  | some x => exact lv_aload_n F.1.1 F.1.2.1 hd hi hl kk
theorem rSt {i : Nat} {r : Option Nat} {lv lv' : List (Nat × Value)} (F : Fx p l s m args meth c cc nL own G) (hd : decode cc pc = .ok (.astore i, 2)) (h : lv_has ls nL lv) (hn : i < nL) (hl : (i, va_rf r) :: lv.filter (fun q => !(q.1 == i) && !(q.1 + 1 == i && q.2.category == 2)) = lv') (kk : ∀ ls' : Array Slot, lv_has ls' nL lv' → W p l e R s m args below meth c H locs cells slots Q (F0 m (pc + 2) ls' rest)) : W p l e R s m args below meth c H locs cells slots Q (F0 m pc ls (va_rf r :: rest)) := by
  cases r with
  | none => exact lv_astoreN F.1.1 F.1.2.1 hd h hn hl kk
  | some x => exact lv_astore F.1.1 F.1.2.1 hd h hn hl kk
theorem rLd {i : Nat} {r : Option Nat} (F : Fx p l s m args meth c cc nL own G) (hd : decode cc pc = .ok (.aload i, 2)) (hl : ls[i]? = some (.val (va_rf r))) (kk : W p l e R s m args below meth c H locs cells slots Q (F0 m (pc + 2) ls (va_rf r :: rest))) : W p l e R s m args below meth c H locs cells slots Q (F0 m pc ls rest) := by
  cases r with
  | none => exact lv_aloadN F.1.1 F.1.2.1 hd hl kk
  | some x => exact lv_aload F.1.1 F.1.2.1 hd hl kk
theorem rMin (F : Fx p l s m args meth c cc nL own G) (hsz : ls.size = nL) (q1 : Cond.methodLink own index Lib.Math.min.name ∈ wsL_law) (hfr : 1 ≤ R.frames) (hlo : (rest.map fun v => v.category).sum + 13 ≤ R.locals) (hc : cells ≤ R.cells) (hs : slots ≤ R.slots) {x z : Int32} (hd : decode cc pc = .ok (.invokestatic index, 3)) (kk : W p l e R s m args below meth c H locs cells slots Q (F0 m (pc + 3) ls (.int (if z < x then z else x) :: rest))) : W p l e R s m args below meth c H locs cells slots Q (F0 m pc ls (.int z :: .int x :: rest)) :=
  va_mmin F.1.1 F.1.2.1 (by rw [F.1.2.2.1, hsz]) F.1.2.2.2.1 (F.1.2.2.2.2 _ q1) (F.1.2.2.2.2 _ q_154) (F.1.2.2.2.2 _ q_283) (F.1.2.2.2.2 _ q_155) hfr hlo hc hs hd kk
theorem rMax (F : Fx p l s m args meth c cc nL own G) (hsz : ls.size = nL) (q1 : Cond.methodLink own index Lib.Math.max.name ∈ wsL_law) (hfr : 1 ≤ R.frames) (hlo : (rest.map fun v => v.category).sum + 13 ≤ R.locals) (hc : cells ≤ R.cells) (hs : slots ≤ R.slots) {x z : Int32} (hd : decode cc pc = .ok (.invokestatic index, 3)) (kk : W p l e R s m args below meth c H locs cells slots Q (F0 m (pc + 3) ls (.int (if x < z then z else x) :: rest))) : W p l e R s m args below meth c H locs cells slots Q (F0 m pc ls (.int z :: .int x :: rest)) :=
  va_mmax F.1.1 F.1.2.1 (by rw [F.1.2.2.1, hsz]) F.1.2.2.2.1 (F.1.2.2.2.2 _ q1) (F.1.2.2.2.2 _ q_127) (F.1.2.2.2.2 _ q_283) (F.1.2.2.2.2 _ q_129) hfr hlo hc hs hd kk
theorem rGetC (F : Fx p l s m args meth c cc nL own G) (hW : Wd G u s H locs) (hsz : ls.size = nL) (h : OB u a 13) (q1 : Cond.methodLink own index yGetClass ∈ wsL_law) (hfr : 1 ≤ R.frames) (hlo : (rest.map fun v => v.category).sum + 14 ≤ R.locals) (hd : decode cc pc = .ok (.invokevirtual index, 3)) (kk : W p l e R s m args below meth c H locs cells slots Q (F0 m (pc + 3) ls (.ref (G.2.2 2) :: rest))) : W p l e R s m args below meth c H locs cells slots Q (F0 m pc ls (.ref a :: rest)) := by
  obtain ⟨k, hk⟩ := wAt h.1 (cel_13 (G := G) h.2)
  have h1 := (hW.1.1 k _ hk)
  have h2 := va_nmO (nm := "[Ljava/lang/Object;") ((F.2.1.1.2 5 _ rfl).2) rfl
  exact va_getC F.1.1 F.1.2.1 (by rw [F.1.2.2.1, hsz]) F.1.2.2.2.1 (F.1.2.2.2.2 _ q1) (va_Nw.use rfl (F.2.1.2.2.2.2.1 yGetClass (List.mem_of_getElem? (i := 6) rfl))) (F.1.2.2.2.2 _ q_145) (F.1.2.2.2.2 _ q_146) (F.1.2.2.2.2 _ q_147) F.2.1.2.2.2.2.2.2.2.2.1 ⟨_, h1, rfl, h2⟩ hfr hlo hd kk
theorem rLdcM (F : Fx p l s m args meth c cc nL own G) (q1 : Cond.classLink own index "[Ljava/lang/Object;" ∈ wsL_law) (hd : decode cc pc = .ok (.ldc index, 2)) (kk : W p l e R s m args below meth c H locs cells slots Q (F0 m (pc + 2) ls (.ref (G.2.2 2) :: rest))) : W p l e R s m args below meth c H locs cells slots Q (F0 m pc ls rest) :=
  va_ldcM F.1.1 F.1.2.1 F.1.2.2.2.1 (F.1.2.2.2.2 _ q1) F.2.1.2.2.2.2.2.2.2.2.1 hd kk
theorem rCast (F : Fx p l s m args meth c cc nL own G) (hW : Wd G u s H locs) (h : OB u a ci) (hci : vwCl[ci]? = some (C, T, N)) (q1 : Cond.classLink own index C ∈ wsL_law) (hd : decode cc pc = .ok (.checkcast index, 3)) (kk : W p l e R s m args below meth c H locs cells slots Q (F0 m (pc + 3) ls (.ref a :: rest))) : W p l e R s m args below meth c H locs cells slots Q (F0 m pc ls (.ref a :: rest)) :=
  va_castS F.1.1 F.1.2.1 F.1.2.2.2.1 (F.1.2.2.2.2 _ q1) ((F.2.1.1.1 ci _ hci).2) (ob_recv F hW h hci) hd kk
theorem entM {vs : List Value} {Qc : Array Value → State → Outcome → State → Prop} (hpl : plainName y.cls = true) (hl : l.stackTraces = false) (hlen : (lg_sl vs).length ≤ maxL) (body : ∀ (p : Program) (e : Env) (s : State) (m : MethodId) (below : List Frame) (meth : Method) (c : Code) (ls : Array Slot), Fx p l s m vs.toArray meth c bytes maxL y.cls G → meth.sig.returnType = ret → meth.name = y.name → Wd G u s s.heap [] → lv_has ls maxL (lv_args 0 vs) → W p l e { frames := fr, cells := mc, slots := ms, locals := lo } s m vs.toArray below meth c s.heap [] 0 0 (MQ below Qc vs.toArray s mc ms (Ab G)) (F0 m 0 ls [])) : Met l y (.code y bytes maxL ret :: wsL_law) { frames := fr, cells := mc, slots := ms, locals := lo } (va_Pc vs (fun U => Kf G U U.heap ∧ Wp G u U.heap)) Qc mc ms (Ab G) := by
  refine Met.ofW (cc := bytes) (maxL := maxL) (ret := ret) hpl rfl ?_
  intro p e s m args below meth c s₁ B hml hv
  obtain ⟨rfl, hK, hP⟩ := hv
  have h := body p e s m below meth c _ ⟨⟨B.exec, B.bytes, hml, findClass_of_methodNamed B.named, fun w hw => atoms_spec (ws := .code y bytes maxL ret :: wsL_law) B.pre w (List.mem_cons_of_mem _ hw)⟩, hK, B.notSynchronized, hl⟩ B.returns ((name_of_methodNamed B.named B.method).1) ⟨hP, va_S.rf⟩ (lv_entry vs hlen)
  rw [lg_entry_eq]
  exact h
theorem entX {vs : List Value} {Qc : Array Value → State → Outcome → State → Prop} {XC : String → State → State → Prop} (hpl : plainName y.cls = true) (hl : l.stackTraces = false) (hlen : (lg_sl vs).length ≤ maxL) (body : ∀ (p : Program) (e : Env) (s : State) (m : MethodId) (below : List Frame) (meth : Method) (c : Code) (ls : Array Slot), Fx p l s m vs.toArray meth c bytes maxL y.cls G → meth.sig.returnType = ret → (∀ x ∈ c.exceptionTable.toList, False) → Wd G u s s.heap [] → lv_has ls maxL (lv_args 0 vs) → W p l e { frames := fr, cells := mc, slots := ms, locals := lo } s m vs.toArray below meth c s.heap [] 0 0 (vx_MQ below Qc XC vs.toArray s mc ms (Ab G)) (F0 m 0 ls [])) : vx_Met l y (.code y bytes maxL ret :: wsL_law) { frames := fr, cells := mc, slots := ms, locals := lo } (va_Pc vs (fun U => Kf G U U.heap ∧ Wp G u U.heap)) Qc XC mc ms (Ab G) := by
  refine vx_ofW (cc := bytes) (maxL := maxL) (ret := ret) hpl rfl ?_
  intro p e s m args below meth c s₁ B hml ht hv
  obtain ⟨rfl, hK, hP⟩ := hv
  have h := body p e s m below meth c _ ⟨⟨B.exec, B.bytes, hml, findClass_of_methodNamed B.named, fun w hw => atoms_spec (ws := .code y bytes maxL ret :: wsL_law) B.pre w (List.mem_cons_of_mem _ hw)⟩, hK, B.notSynchronized, hl⟩ B.returns ht ⟨hP, va_S.rf⟩ (lv_entry vs hlen)
  rw [lg_entry_eq]
  exact h
theorem entW {vs : List Value} {hh : List (Nat × Nat × Nat × Nat)} {Qc : Array Value → State → Outcome → State → Prop} (hpl : plainName y.cls = true) (hl : l.stackTraces = false) (hlen : (lg_sl vs).length ≤ maxL) (body : ∀ (p : Program) (e : Env) (s : State) (m : MethodId) (below : List Frame) (meth : Method) (c : Code) (ls : Array Slot), Fx p l s m vs.toArray meth c bytes maxL y.cls G → meth.sig.returnType = ret → c.exceptionTable.toList = Jvm.tableOf hh → Wd G u s s.heap [] → lv_has ls maxL (lv_args 0 vs) → W p l e { frames := fr, cells := mc, slots := ms, locals := lo } s m vs.toArray below meth c s.heap [] 0 0 (MQ below Qc vs.toArray s mc ms (Ab G)) (F0 m 0 ls [])) : Met l y (.codeWith y bytes maxL ret hh :: wsL_law) { frames := fr, cells := mc, slots := ms, locals := lo } (va_Pc vs (fun U => Kf G U U.heap ∧ Wp G u U.heap)) Qc mc ms (Ab G) := by
  refine met_vx (G := G) (vx_ofWH (cc := bytes) (maxL := maxL) (ret := ret) (hh := hh) hpl rfl ?_)
  intro p e s m args below meth c s₁ B hml hv
  obtain ⟨rfl, hK, hP⟩ := hv
  have hT := vx_table (x := y) (y := y) (hh := hh) B (bytes := bytes) (maxL' := maxL) (ret' := ret) (atoms_spec (ws := .codeWith y bytes maxL ret hh :: wsL_law) B.pre _ List.mem_cons_self)
  have h := body p e s m below meth c _ ⟨⟨B.exec, B.bytes, hml, findClass_of_methodNamed B.named, fun w hw => atoms_spec (ws := .codeWith y bytes maxL ret hh :: wsL_law) B.pre w (List.mem_cons_of_mem _ hw)⟩, hK, B.notSynchronized, hl⟩ B.returns hT ⟨hP, va_S.rf⟩ (lv_entry vs hlen)
  rw [lg_entry_eq]
  exact vx_ret h
theorem ofWF {ws ws' : List Cond} {rm : Room} {Pc : Array Value → State → Prop} {Qc : Array Value → State → Outcome → State → Prop} {free : Addr → Prop} (hy : plainFor y = true) (hw : ws = Cond.code y bytes maxL ret :: ws') (body : ∀ p e s m args below meth c s₁, BodyLoose p l y (headSpec ws rm) bytes maxL ret e s m args below meth c s₁ → c.maxLocals = maxL → Pc args s → W p l e (headSpec ws rm).room s m args below meth c s.heap [] 0 0 (MQ below Qc args s mc ms free) (entryFrame m args maxL)) : Met l y ws rm Pc Qc mc ms free := by
  refine MetFree.of_bodySF (code := bytes) (maxLocals := maxL) (ret := ret) hy ?_ ?_
  · intro args s m h hn
    obtain ⟨meth, c, h1, h2, h3, h4, h5, h6, -, -⟩ := Cond.code_spec hn (atoms_spec (ws := ws) h _ (by rw [hw]; exact List.mem_cons_self))
    exact ⟨meth, c, h1, h2, h3, h4, h5, h6⟩
  · intro p e s m args below meth c s₁ B hml hP _
    have hh0 : s₁.heap = s.heap := by rw [B.state]; rfl
    obtain ⟨t, a1, o, b1, b2, b3⟩ := body p e s m args below meth c s₁ B hml hP s₁ hh0 (Stand.of_body B)
    exact ⟨t, o, a1, b1, b2, b3⟩
theorem entF {vs : List Value} {Qc : Array Value → State → Outcome → State → Prop} (hpl : plainFor y = true) (hl : l.stackTraces = false) (hlen : (lg_sl vs).length ≤ maxL) (body : ∀ (p : Program) (e : Env) (s : State) (m : MethodId) (below : List Frame) (meth : Method) (c : Code) (ls : Array Slot), Fx p l s m vs.toArray meth c bytes maxL y.cls G → meth.sig.returnType = ret → meth.name = y.name → Wd G u s s.heap [] → lv_has ls maxL (lv_args 0 vs) → W p l e { frames := fr, cells := mc, slots := ms, locals := lo } s m vs.toArray below meth c s.heap [] 0 0 (MQ below Qc vs.toArray s mc ms (Ab G)) (F0 m 0 ls [])) : Met l y (.code y bytes maxL ret :: wsL_law) { frames := fr, cells := mc, slots := ms, locals := lo } (va_Pc vs (fun U => Kf G U U.heap ∧ Wp G u U.heap)) Qc mc ms (Ab G) := by
  refine ofWF hpl rfl ?_
  intro p e s m args below meth c s₁ B hml hv
  obtain ⟨rfl, hK, hP⟩ := hv
  have h := body p e s m below meth c _ ⟨⟨B.exec, B.bytes, hml, findClass_of_methodNamed B.named, fun w hw => atoms_spec (ws := .code y bytes maxL ret :: wsL_law) B.pre w (List.mem_cons_of_mem _ hw)⟩, hK, B.notSynchronized, hl⟩ B.returns ((name_of_methodNamed B.named B.method).1) ⟨hP, va_S.rf⟩ (lv_entry vs hlen)
  rw [lg_entry_eq]
  exact h
theorem rThrow (F : Fx p l s m args meth c cc nL own G) (hW : Wd G u s H locs) {Qc : Array Value → State → Outcome → State → Prop} {X : String → Mem → Prop} {cls text : String} {ik is ic : Nat} (hcls : Bundle.fit cls = true) (hk : Cond.classLink own ik cls ∈ wsL_law) (hini : Cond.initialized cls ∈ wsL_law) (hstr : (own, is, text) ∈ SL) (hat : ∀ w ∈ vx_atS own ic cls ["java/lang/RuntimeException", "java/lang/Exception"], w.before args s = true) (hgood : ∀ w ∈ Cond.classLink own ik cls :: Cond.initialized cls :: vx_atS own ic cls ["java/lang/RuntimeException", "java/lang/Exception"], vx_ot w = true)
    (hsize : ls.size = nL) (d0 : decode cc pc = .ok (.new ik, 3)) (d3 : decode cc (pc + 3) = .ok (.dup, 1)) (d4 : decode cc (pc + 4) = .ok (.ldc is, 2)) (d6 : decode cc (pc + 6) = .ok (.invokespecial ic, 3)) (d9 : decode cc (pc + 9) = .ok (.athrow, 1)) (hout : ∀ x ∈ c.exceptionTable.toList, False) (hfr : 5 < R.frames) (hlo : (rest.map fun v => v.category).sum + 82 ≤ R.locals) (hRc : cells + 1 ≤ R.cells) (hRs : slots + 6 ≤ R.slots) (hx : X cls u) (hc : cells + 1 ≤ mc) (hs : slots + 6 ≤ ms) :
    W p l e R s m args below meth c H locs cells slots (vx_MQ below Qc (XCt G X) args s mc ms (Ab G)) (F0 m pc ls rest) := by
  obtain ⟨sa, hsa⟩ := F.2.1.2.2.2.2.2.2.1 _ hstr
  exact vx_throwS F.1.1 F.1.2.1 F.2.2.2 F.1.2.2.2.1 hcls (by decide) (F.1.2.2.2.2 _ hk) (F.1.2.2.2.2 _ hini) hsa hat hgood F.2.1.2.2.2.2.2.2.2.2.2.2.2.1 F.2.1.2.2.2.2.2.2.2.2.2.2.2.2.1 hW.2 (by rw [F.1.2.2.1, hsize]) d0 d3 d4 d6 d9 (fun x h => (hout x h).elim) hfr hlo hRc hRs F.2.2.1 (fun t _ hz hk => ⟨(cls, u), hx, ⟨rfl, va_P.kept hW.1.1 (fun k q hq => hk q.1 ((hW.1.1 k q hq).lt)), hW.1.2⟩, Nat.le_trans hW.2.1 hz, fun q h1 h2 => (hk q (Nat.lt_of_lt_of_le h1 hW.2.1)).trans (hW.2.2.1 q h1 h2)⟩) hW.2.2.2 hc hs
theorem rCatch (F : Fx p l s m args meth c cc nL own G) {E : String} {hh : List (Nat × Nat × Nat × Nat)} (hT : c.exceptionTable.toList = Jvm.tableOf hh) (pre : List (Nat × Nat × Nat × Nat)) (x : Nat × Nat × Nat × Nat) (suf : List (Nat × Nat × Nat × Nat)) (hsplit : hh = pre ++ x :: suf) (hpass : ∀ z ∈ pre, z.2.2.2 ≠ 0 ∧ ∃ nm : String, Cond.classLink own z.2.2.2 nm ∈ wsL_law ∧ (E, nm) ∈ NO) (hx : x.1 ≤ pc ∧ pc < x.2.1) (h0 : x.2.2.2 ≠ 0) (hlink : Cond.classLink own x.2.2.2 E ∈ wsL_law) (hcast : (E, E) ∈ NX) (kk : ∀ q : Nat, W p l e R s m args below meth c H locs cells slots Q (F0 m x.2.2.1 ls [.ref q])) : Thr p l e R s m args below meth c H locs cells slots Q (F0 m pc ls rest) E := by
  intro q ce hcell hv hcl
  refine vx_catch (name := E) F.1.2.2.2.1 (Jvm.tableOf pre) ⟨x.1, x.2.1, x.2.2.1, x.2.2.2⟩ (Jvm.tableOf suf) (by rw [hT, hsplit]; simp [Jvm.tableOf]) ?_ (by simp [covers, hx.1, hx.2]) h0 (F.1.2.2.2.2 _ hlink) (va_Nw.use rfl (F.2.1.2.2.2.1 _ hcast)) hcell hv hcl (kk q)
  intro z hz
  obtain ⟨w, hw, rfl⟩ := List.mem_map.mp hz
  obtain ⟨h1, nm, h2, h3⟩ := hpass w hw
  exact Or.inr ⟨h1, nm, F.1.2.2.2.2 _ h2, F.2.1.2.2.2.2.2.1 _ h3⟩
end CLS
end
section
section THR
variable {p : Program} {l : Launch} {s : State} {m : MethodId} {args : Array Value} {meth : Method} {c : Code} {cc : ByteArray} {nL : Nat} {G : Ctx}
set_option maxRecDepth 20000 in
theorem xb_0 : (vx_atS RX5 54 "java/lang/IndexOutOfBoundsException" ["java/lang/RuntimeException", "java/lang/Exception"]).filter (fun w => !goodWord w) = [.declares ⟨"java/lang/RuntimeException", "<init>", "(Ljava/lang/String;)V"⟩, .declares ⟨"java/lang/Exception", "<init>", "(Ljava/lang/String;)V"⟩, .declares ⟨"java/lang/Throwable", "<init>", "(Ljava/lang/String;)V"⟩, .castable "java/lang/IndexOutOfBoundsException" "java/lang/IndexOutOfBoundsException"] := by decide +kernel
theorem xa_0 (F : Fx p l s m args meth c cc nL RX5 G) : ∀ w ∈ vx_atS RX5 54 "java/lang/IndexOutOfBoundsException" ["java/lang/RuntimeException", "java/lang/Exception"], w.before args s = true := vx_hat (B := [.declares ⟨"java/lang/RuntimeException", "<init>", "(Ljava/lang/String;)V"⟩, .declares ⟨"java/lang/Exception", "<init>", "(Ljava/lang/String;)V"⟩, .declares ⟨"java/lang/Throwable", "<init>", "(Ljava/lang/String;)V"⟩, .castable "java/lang/IndexOutOfBoundsException" "java/lang/IndexOutOfBoundsException"]) (fun w hw => F.1.2.2.2.2 _ (List.mem_append_left _ (List.mem_append_left _ (List.mem_append_right _ hw)))) (fun w hw => by rw [xb_0] at hw; exact hw) (vx_c (va_Nw.use rfl (F.2.1.2.2.2.2.1 _ (List.mem_of_getElem? (i := 1) rfl))) (vx_c (va_Nw.use rfl (F.2.1.2.2.2.2.1 _ (List.mem_of_getElem? (i := 3) rfl))) (vx_c (va_Nw.use rfl (F.2.1.2.2.2.2.1 _ (List.mem_of_getElem? (i := 5) rfl))) (vx_c (va_Nw.use rfl (F.2.1.2.2.2.1 ("java/lang/IndexOutOfBoundsException", "java/lang/IndexOutOfBoundsException") (List.mem_of_getElem? (i := 0) rfl))) vx_n))))
set_option maxRecDepth 20000 in
theorem xg_0 : ∀ w ∈ Cond.classLink RX5 50 "java/lang/IndexOutOfBoundsException" :: Cond.initialized "java/lang/IndexOutOfBoundsException" :: vx_atS RX5 54 "java/lang/IndexOutOfBoundsException" ["java/lang/RuntimeException", "java/lang/Exception"], vx_ot w = true := by decide +kernel
set_option maxRecDepth 20000 in
theorem xb_1 : (vx_atS RX5 61 "java/lang/IllegalArgumentException" ["java/lang/RuntimeException", "java/lang/Exception"]).filter (fun w => !goodWord w) = [.declares ⟨"java/lang/RuntimeException", "<init>", "(Ljava/lang/String;)V"⟩, .declares ⟨"java/lang/Exception", "<init>", "(Ljava/lang/String;)V"⟩, .declares ⟨"java/lang/Throwable", "<init>", "(Ljava/lang/String;)V"⟩, .castable "java/lang/IllegalArgumentException" "java/lang/IllegalArgumentException"] := by decide +kernel
theorem xa_1 (F : Fx p l s m args meth c cc nL RX5 G) : ∀ w ∈ vx_atS RX5 61 "java/lang/IllegalArgumentException" ["java/lang/RuntimeException", "java/lang/Exception"], w.before args s = true := vx_hat (B := [.declares ⟨"java/lang/RuntimeException", "<init>", "(Ljava/lang/String;)V"⟩, .declares ⟨"java/lang/Exception", "<init>", "(Ljava/lang/String;)V"⟩, .declares ⟨"java/lang/Throwable", "<init>", "(Ljava/lang/String;)V"⟩, .castable "java/lang/IllegalArgumentException" "java/lang/IllegalArgumentException"]) (fun w hw => F.1.2.2.2.2 _ (List.mem_append_left _ (List.mem_append_right _ hw))) (fun w hw => by rw [xb_1] at hw; exact hw) (vx_c (va_Nw.use rfl (F.2.1.2.2.2.2.1 _ (List.mem_of_getElem? (i := 1) rfl))) (vx_c (va_Nw.use rfl (F.2.1.2.2.2.2.1 _ (List.mem_of_getElem? (i := 3) rfl))) (vx_c (va_Nw.use rfl (F.2.1.2.2.2.2.1 _ (List.mem_of_getElem? (i := 5) rfl))) (vx_c (va_Nw.use rfl (F.2.1.2.2.2.1 ("java/lang/IllegalArgumentException", "java/lang/IllegalArgumentException") (List.mem_of_getElem? (i := 1) rfl))) vx_n))))
set_option maxRecDepth 20000 in
theorem xg_1 : ∀ w ∈ Cond.classLink RX5 57 "java/lang/IllegalArgumentException" :: Cond.initialized "java/lang/IllegalArgumentException" :: vx_atS RX5 61 "java/lang/IllegalArgumentException" ["java/lang/RuntimeException", "java/lang/Exception"], vx_ot w = true := by decide +kernel
set_option maxRecDepth 20000 in
theorem xb_2 : (vx_atS RX5 70 "java/lang/IllegalStateException" ["java/lang/RuntimeException", "java/lang/Exception"]).filter (fun w => !goodWord w) = [.declares ⟨"java/lang/RuntimeException", "<init>", "(Ljava/lang/String;)V"⟩, .declares ⟨"java/lang/Exception", "<init>", "(Ljava/lang/String;)V"⟩, .declares ⟨"java/lang/Throwable", "<init>", "(Ljava/lang/String;)V"⟩, .castable "java/lang/IllegalStateException" "java/lang/IllegalStateException"] := by decide +kernel
theorem xa_2 (F : Fx p l s m args meth c cc nL RX5 G) : ∀ w ∈ vx_atS RX5 70 "java/lang/IllegalStateException" ["java/lang/RuntimeException", "java/lang/Exception"], w.before args s = true := vx_hat (B := [.declares ⟨"java/lang/RuntimeException", "<init>", "(Ljava/lang/String;)V"⟩, .declares ⟨"java/lang/Exception", "<init>", "(Ljava/lang/String;)V"⟩, .declares ⟨"java/lang/Throwable", "<init>", "(Ljava/lang/String;)V"⟩, .castable "java/lang/IllegalStateException" "java/lang/IllegalStateException"]) (fun w hw => F.1.2.2.2.2 _ (List.mem_append_right _ hw)) (fun w hw => by rw [xb_2] at hw; exact hw) (vx_c (va_Nw.use rfl (F.2.1.2.2.2.2.1 _ (List.mem_of_getElem? (i := 1) rfl))) (vx_c (va_Nw.use rfl (F.2.1.2.2.2.2.1 _ (List.mem_of_getElem? (i := 3) rfl))) (vx_c (va_Nw.use rfl (F.2.1.2.2.2.2.1 _ (List.mem_of_getElem? (i := 5) rfl))) (vx_c (va_Nw.use rfl (F.2.1.2.2.2.1 ("java/lang/IllegalStateException", "java/lang/IllegalStateException") (List.mem_of_getElem? (i := 2) rfl))) vx_n))))
set_option maxRecDepth 20000 in
theorem xg_2 : ∀ w ∈ Cond.classLink RX5 66 "java/lang/IllegalStateException" :: Cond.initialized "java/lang/IllegalStateException" :: vx_atS RX5 70 "java/lang/IllegalStateException" ["java/lang/RuntimeException", "java/lang/Exception"], vx_ot w = true := by decide +kernel
end THR
end
