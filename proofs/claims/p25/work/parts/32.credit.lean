section S2Q
variable {B : Nat → Nat → Nat} {G : Ctx} {s z : Nat → Nat → Int32} {t : Nat → Nat → Nat} {ka : List Nat} {u : Mem} {n m : Nat}
/-! what keeps the papers under 40: each walk has a credit of at most five pictures -/
def sm (c : Nat → Nat) : Nat → Nat
  | 0 => 0
  | k + 1 => sm c k + c k
def cd (c : Nat → Nat) (w : Nat) : Nat → Nat := fun k => if k = w then c w - 1 else c k
theorem sm_cong {c c' : Nat → Nat} : ∀ N, (∀ k, k < N → c k = c' k) → sm c N = sm c' N := by
  intro N
  induction N with
  | zero => intro _; rfl
  | succ N ih => intro h; show sm c N + c N = sm c' N + c' N; rw [ih (fun k hk => h k (by omega)), h N (by omega)]
theorem sm_cd {c : Nat → Nat} {w : Nat} (h1 : 1 ≤ c w) : ∀ N, w < N → sm (cd c w) N + 1 = sm c N := by
  intro N
  induction N with
  | zero => intro h; omega
  | succ N ih =>
    intro h
    show sm (cd c w) N + cd c w N + 1 = sm c N + c N
    by_cases e : w = N
    · subst e
      have e1 : sm (cd c w) w = sm c w := sm_cong w (fun k hk => by unfold cd; rw [if_neg (by omega)])
      have e2 : cd c w w = c w - 1 := by unfold cd; rw [if_pos rfl]
      rw [e1, e2]; omega
    · have e1 := ih (by omega)
      have e2 : cd c w N = c N := by unfold cd; rw [if_neg (by omega)]
      rw [e2]; omega
theorem sm_ge {c : Nat → Nat} : ∀ N w, w < N → c w ≤ sm c N := by
  intro N
  induction N with
  | zero => intro w h; omega
  | succ N ih =>
    intro w h
    show c w ≤ sm c N + c N
    by_cases e : w = N
    · subst e; omega
    · have := ih w (by omega); omega
def Act (s : Nat → Nat → Int32) (w : Nat) : Prop := s 13 w = 1 ∨ s 13 w = 2
def Qs (s : Nat → Nat → Int32) (n : Nat) : Prop := n ≤ 8 ∧ (∀ i, i < 8 → s 5 i = 0 ∨ s 5 i = 1) ∧ (∀ w, w < n → s 11 w ≠ s 12 w) ∧ (∀ w, w < n → Act s w → ∃ e, e < 4 ∧ s 14 w = nI e ∧ ¬ s 9 e = 0) ∧ (∀ w w', w < n → w' < n → Act s w → Act s w' → s 14 w = s 14 w' → w = w')
def Qg (s : Nat → Nat → Int32) (n m : Nat) : Prop := ∀ j, j < m → ∃ a b c, a < 8 ∧ b < n ∧ c ≤ 1000 ∧ s 18 j = nI a ∧ s 19 j = nI b ∧ s 20 j = nI c
/-- M papers at most, x: the walk that has just spent one of its credit -/
def Qb (s : Nat → Nat → Int32) (n M x : Nat) : Prop := ∃ c : Nat → Nat, M + sm c 8 ≤ 40 ∧ (∀ w, w < n → s 13 w = 0 ∨ s 13 w = 1 → 5 ≤ c w) ∧ (∀ w, n ≤ w → w < 8 → 5 ≤ c w) ∧ (∀ w, w < n → s 13 w = 2 → ∃ e p d, e < 4 ∧ p < 8 ∧ d < 8 ∧ s 14 w = nI e ∧ s 7 e = nI p ∧ s 12 w = nI d ∧ dst p d ≤ c w ∧ (w ≠ x → 1 ≤ dst p d))
def Qi (s : Nat → Nat → Int32) (n m : Nat) : Prop := Qs s n ∧ Qg s n m ∧ Qb s n m 8
theorem Qs_cong {s' : Nat → Nat → Int32} (h : Qs s n) (e : ∀ k, k = 5 ∨ k = 9 ∨ k = 11 ∨ k = 12 ∨ k = 13 ∨ k = 14 → s' k = s k) : Qs s' n := by
  unfold Qs Act at *
  rw [e 5 (by omega), e 9 (by omega), e 11 (by omega), e 12 (by omega), e 13 (by omega), e 14 (by omega)]
  exact h
theorem Qg_cong {s' : Nat → Nat → Int32} (h : Qg s n m) (e : ∀ k, k = 18 ∨ k = 19 ∨ k = 20 → s' k = s k) : Qg s' n m := by
  unfold Qg at *
  rw [e 18 (by omega), e 19 (by omega), e 20 (by omega)]
  exact h
theorem Qb_cong {s' : Nat → Nat → Int32} {M x : Nat} (h : Qb s n M x) (e : ∀ k, k = 7 ∨ k = 12 ∨ k = 13 ∨ k = 14 → s' k = s k) : Qb s' n M x := by
  unfold Qb at *
  rw [e 7 (by omega), e 12 (by omega), e 13 (by omega), e 14 (by omega)]
  exact h
theorem Qb_le {M M' x : Nat} (h : Qb s n M x) (hM : M' ≤ M) : Qb s n M' x := by
  obtain ⟨c, h1, h2⟩ := h
  exact ⟨c, by omega, h2⟩
theorem Qb_40 {M x : Nat} (h : Qb s n M x) : M ≤ 40 := by
  obtain ⟨c, h1, _⟩ := h
  omega
theorem dst1p : ∀ p, p < 8 → ∀ d, d < 8 → p ≠ d → 1 ≤ dst p d := by decide +kernel
theorem dst0 : ∀ p, p < 8 → ∀ d, d < 8 → dst p d = 0 → p = d := by decide +kernel
theorem dst_stp : ∀ p, p < 8 → ∀ d, d < 8 → 1 ≤ dst p d → dst (stp p d) d = dst p d - 1 := by decide +kernel
theorem nI8 {a b : Nat} (ha : a < 8) (hb : b < 8) (h : nI a = nI b) : a = b := (nI_eq (by omega) (by omega)).mp h
/-- the escort of one active walk goes elsewhere: the others' ones stay -/
theorem other_e (hs : Qs s n) {w w' e e' : Nat} (hw : w < n) (hw' : w' < n) (ha : Act s w) (ha' : Act s w') (hn : w' ≠ w) (z : s 14 w = nI e) (z' : s 14 w' = nI e') (he : e < 4) (he' : e' < 4) : e' ≠ e := fun x => hn (hs.2.2.2.2 w' w hw' hw ha' ha (by rw [z, z', x]))
theorem Qs_7 (h : Qs s n) (e : Nat) (v : Int32) : Qs (up2 s 7 e v) n := Qs_cong h (fun k hk => by funext i; rw [up2_at, if_neg (by omega)])
/-- on its way to the walker -/
theorem Qb_come (hs : Qs s n) (h : Qb s n m 8) {w e : Nat} (hw : w < n) (he : e < 4) (z13 : s 13 w = 1) (z14 : s 14 w = nI e) (v : Int32) : Qb (up2 s 7 e v) n m 8 := by
  obtain ⟨c, h1, h2, h3, h4⟩ := h
  refine ⟨c, h1, h2, h3, fun w' hw' y => ?_⟩
  obtain ⟨e', p, d, g1, g2, g3, g4, g5, g6, g7, g8⟩ := h4 w' hw' y
  have y' : s 13 w' = 2 := y
  have hne : w' ≠ w := fun x => by rw [x, z13] at y'; exact absurd y' (by decide)
  have hee := other_e hs hw hw' (.inl z13) (.inr y') hne z14 g4 he g1
  exact ⟨e', p, d, g1, g2, g3, g4, by rw [up2_at, if_neg (fun q => hee q.2)]; exact g5, g6, g7, g8⟩
/-- it has come to the walker: one picture may be taken -/
theorem Qb_meet (hs : Qs s n) (h : Qb s n m 8) {w e f d : Nat} (hw : w < n) (he : e < 4) (z13 : s 13 w = 1) (z14 : s 14 w = nI e) (hf : f < 8) (hd : d < 8) (z12 : s 12 w = nI d) : Qb (up2 (up2 s 7 e (nI f)) 13 w 2) n (m + 1) w := by
  obtain ⟨c, h1, h2, h3, h4⟩ := h
  have n8 : n ≤ 8 := hs.1
  have c5 := h2 w hw (.inr z13)
  have hc := sm_cd (c := c) (w := w) (by omega) 8 (by omega)
  refine ⟨cd c w, by omega, fun w' hw' y => ?_, fun w' g1 g2 => ?_, fun w' hw' y => ?_⟩
  · have hne : w' ≠ w := fun x => by
      rw [x, up2_at, if_pos ⟨rfl, rfl⟩] at y; rcases y with y | y <;> exact absurd y (by decide)
    rw [up2_at, if_neg (fun q => hne q.2)] at y
    unfold cd; rw [if_neg hne]; exact h2 w' hw' y
  · unfold cd; rw [if_neg (by omega)]; exact h3 w' g1 g2
  · by_cases hne : w' = w
    · subst hne
      refine ⟨e, f, d, he, hf, hd, z14, by rw [up2_at, if_neg (by omega), up2_at, if_pos ⟨rfl, rfl⟩], z12, ?_, fun x => absurd rfl x⟩
      have := dst_lt f hf d hd
      unfold cd; rw [if_pos rfl]; omega
    · rw [up2_at, if_neg (fun q => hne q.2)] at y
      have y' : s 13 w' = 2 := y
      obtain ⟨e', p, d', g1, g2, g3, g4, g5, g6, g7, g8⟩ := h4 w' hw' y'
      have hee := other_e hs hw hw' (.inl z13) (.inr y') hne z14 g4 he g1
      refine ⟨e', p, d', g1, g2, g3, g4, by rw [up2_at, if_neg (by omega), up2_at, if_neg (fun q => hee q.2)]; exact g5, g6, ?_, fun _ => g8 (by omega)⟩
      unfold cd; rw [if_neg hne]; exact g7
/-- both go one street on -/
theorem Qb_walk (hs : Qs s n) (h : Qb s n m 8) {w e p d : Nat} (hw : w < n) (he : e < 4) (z13 : s 13 w = 2) (z14 : s 14 w = nI e) (hp : p < 8) (hd : d < 8) (z7 : s 7 e = nI p) (z12 : s 12 w = nI d) : Qb (up2 s 7 e (nI (stp p d))) n (m + 1) w := by
  obtain ⟨c, h1, h2, h3, h4⟩ := h
  have n8 : n ≤ 8 := hs.1
  obtain ⟨e0, p0, d0, k1, k2, k3, k4, k5, k6, k7, k8⟩ := h4 w hw z13
  have ee : e0 = e := nI8 (by omega) (by omega) (k4.symm.trans z14)
  subst ee
  have ep : p0 = p := nI8 k2 hp (k5.symm.trans z7)
  have ed : d0 = d := nI8 k3 hd (k6.symm.trans z12)
  subst ep; subst ed
  have k8 := k8 (by omega)
  have hc := sm_cd (c := c) (w := w) (by omega) 8 (by omega)
  have hds := dst_stp p0 hp d0 hd k8
  refine ⟨cd c w, by omega, fun w' hw' y => ?_, fun w' g1 g2 => ?_, fun w' hw' y => ?_⟩
  · have y : s 13 w' = 0 ∨ s 13 w' = 1 := y
    have hne : w' ≠ w := fun x => by
      rw [x, z13] at y; rcases y with y | y <;> exact absurd y (by decide)
    unfold cd; rw [if_neg hne]; exact h2 w' hw' y
  · unfold cd; rw [if_neg (by omega)]; exact h3 w' g1 g2
  · have y' : s 13 w' = 2 := y
    by_cases hne : w' = w
    · subst hne
      refine ⟨e0, stp p0 d0, d0, he, stp_lt p0 hp d0 hd, hd, z14, by rw [up2_at, if_pos ⟨rfl, rfl⟩], z12, ?_, fun x => absurd rfl x⟩
      unfold cd; rw [if_pos rfl, hds]; omega
    · obtain ⟨e', p, d', g1, g2, g3, g4, g5, g6, g7, g8⟩ := h4 w' hw' y'
      have hee := other_e hs hw hw' (.inr z13) (.inr y') hne z14 g4 he g1
      refine ⟨e', p, d', g1, g2, g3, g4, by rw [up2_at, if_neg (fun q => hee q.2)]; exact g5, g6, ?_, fun _ => g8 (by omega)⟩
      unfold cd; rw [if_neg hne]; exact g7
/-- the walk goes on behind a minute -/
theorem Qb_on {n' : Nat} (h : Qb s n m n') {w e p d : Nat} (hx : n' = w) (hw : w < n) (z14 : s 14 w = nI e) (z7 : s 7 e = nI p) (z12 : s 12 w = nI d) (he : e < 4) (hp : p < 8) (hd : d < 8) (hne : p ≠ d) : Qb s n m 8 := by
  subst hx
  obtain ⟨c, h1, h2, h3, h4⟩ := h
  refine ⟨c, h1, h2, h3, fun w' hw' y => ?_⟩
  obtain ⟨e', p', d', g1, g2, g3, g4, g5, g6, g7, g8⟩ := h4 w' hw' y
  refine ⟨e', p', d', g1, g2, g3, g4, g5, g6, g7, fun _ => ?_⟩
  by_cases hw2 : w' = n'
  · subst hw2
    have ee : e' = e := nI8 (by omega) (by omega) (g4.symm.trans z14)
    subst ee
    have ep : p' = p := nI8 g2 hp (g5.symm.trans z7)
    have ed : d' = d := nI8 g3 hd (g6.symm.trans z12)
    subst ep; subst ed
    exact dst1p _ hp _ hd hne
  · exact g8 hw2
/-- .. or is over -/
theorem Qb_end {w : Nat} (h : Qb s n m w) {e : Nat} (v : Int32) (hw : w < n) : Qb (up2 (up2 s 13 w 3) 9 e v) n m 8 := by
  obtain ⟨c, h1, h2, h3, h4⟩ := h
  have e13 : ∀ w', up2 (up2 s 13 w 3) 9 e v 13 w' = if w' = w then 3 else s 13 w' := fun w' => by
    rw [up2_at, if_neg (by omega), up2_at]
    by_cases q : w' = w
    · rw [if_pos ⟨rfl, q⟩, if_pos q]
    · rw [if_neg (fun y => q y.2), if_neg q]
  refine ⟨c, h1, fun w' hw' y => ?_, h3, fun w' hw' y => ?_⟩
  · rw [e13] at y
    by_cases q : w' = w
    · rw [if_pos q] at y; rcases y with y | y <;> exact absurd y (by decide)
    · rw [if_neg q] at y; exact h2 w' hw' y
  · rw [e13] at y
    by_cases q : w' = w
    · rw [if_pos q] at y; exact absurd y (by decide)
    · rw [if_neg q] at y
      obtain ⟨e', p, d', g1, g2, g3, g4, g5, g6, g7, g8⟩ := h4 w' hw' y
      exact ⟨e', p, d', g1, g2, g3, g4, g5, g6, g7, fun _ => g8 q⟩
theorem act_end {w e w' : Nat} {v : Int32} (h : Act (up2 (up2 s 13 w 3) 9 e v) w') : w' ≠ w ∧ Act s w' := by
  unfold Act at h
  have e13 : up2 (up2 s 13 w 3) 9 e v 13 w' = if w' = w then 3 else s 13 w' := by
    rw [up2_at, if_neg (by omega), up2_at]
    by_cases q : w' = w
    · rw [if_pos ⟨rfl, q⟩, if_pos q]
    · rw [if_neg (fun y => q y.2), if_neg q]
  rw [e13] at h
  by_cases q : w' = w
  · rw [if_pos q] at h; rcases h with h | h <;> exact absurd h (by decide)
  · rw [if_neg q] at h; exact ⟨q, h⟩
theorem Qs_end (h : Qs s n) {w e : Nat} (hw : w < n) (he : e < 4) (ha : Act s w) (z14 : s 14 w = nI e) (v : Int32) : Qs (up2 (up2 s 13 w 3) 9 e v) n := by
  obtain ⟨h1, h2, h3, h4, h5⟩ := h
  refine ⟨h1, h2, h3, fun w' hw' a' => ?_, fun w1 w2 k1 k2 a1 a2 => h5 w1 w2 k1 k2 (act_end a1).2 (act_end a2).2⟩
  obtain ⟨q, a'⟩ := act_end a'
  obtain ⟨e', g1, g2, g3⟩ := h4 w' hw' a'
  refine ⟨e', g1, g2, ?_⟩
  have hee : e' ≠ e := other_e ⟨h1, h2, h3, h4, h5⟩ hw hw' ha a' q z14 g2 he g1
  rw [up2_at, if_neg (fun y => hee y.2)]
  exact g3
theorem Qs_13 (h : Qs s n) {w : Nat} (ha : Act s w) : Qs (up2 s 13 w 2) n := by
  obtain ⟨h1, h2, h3, h4, h5⟩ := h
  have ac : ∀ w', Act (up2 s 13 w 2) w' → Act s w' := fun w' y => by
    by_cases q : w' = w
    · rw [q]; exact ha
    · unfold Act at y ⊢
      rw [up2_at, if_neg (fun k => q k.2)] at y; exact y
  exact ⟨h1, h2, h3, fun w' hw' a' => h4 w' hw' (ac w' a'), fun w1 w2 k1 k2 a1 a2 => h5 w1 w2 k1 k2 (ac _ a1) (ac _ a2)⟩
/-- a walk that waits gets a free escort -/
theorem act_send {w e w' : Nat} (h : Act (up2 (up2 (up2 s 14 w (nI e)) 13 w 1) 9 e 1) w') : w' = w ∨ (w' ≠ w ∧ Act s w') := by
  by_cases q : w' = w
  · exact .inl q
  · refine .inr ⟨q, ?_⟩
    unfold Act at h ⊢
    rw [up2_at, if_neg (by omega), up2_at, if_neg (fun k => q k.2)] at h
    exact h
theorem Qi_send (h : Qi s n m) {w e : Nat} (hw : w < n) (he : e < 4) (z13 : s 13 w = 0) (z9 : s 9 e = 0) : Qi (up2 (up2 (up2 s 14 w (nI e)) 13 w 1) 9 e 1) n m := by
  obtain ⟨⟨h1, h2, h3, h4, h5⟩, hg, c, k1, k2, k3, k4⟩ := h
  have e14 : ∀ w', up2 (up2 (up2 s 14 w (nI e)) 13 w 1) 9 e 1 14 w' = if w' = w then nI e else s 14 w' := fun w' => by
    rw [up2_at, if_neg (by omega), up2_at, if_neg (by omega), up2_at]
    by_cases q : w' = w
    · rw [if_pos ⟨rfl, q⟩, if_pos q]
    · rw [if_neg (fun y => q y.2), if_neg q]
  have e13 : ∀ w', up2 (up2 (up2 s 14 w (nI e)) 13 w 1) 9 e 1 13 w' = if w' = w then 1 else s 13 w' := fun w' => by
    rw [up2_at, if_neg (by omega), up2_at]
    by_cases q : w' = w
    · rw [if_pos ⟨rfl, q⟩, if_pos q]
    · rw [if_neg (fun y => q y.2), if_neg q]; rfl
  have e9 : ∀ e', up2 (up2 (up2 s 14 w (nI e)) 13 w 1) 9 e 1 9 e' = if e' = e then 1 else s 9 e' := fun e' => by
    rw [up2_at]
    by_cases q : e' = e
    · rw [if_pos ⟨rfl, q⟩, if_pos q]
    · rw [if_neg (fun y => q y.2), if_neg q]; rfl
  have busy : ∀ w', w' < n → Act s w' → s 14 w' ≠ nI e := fun w' hw' a' x => by
    obtain ⟨e', g1, g2, g3⟩ := h4 w' hw' a'
    have := nI8 (by omega) (by omega) (g2.symm.trans x)
    rw [this] at g3
    exact g3 z9
  refine ⟨⟨h1, h2, h3, fun w' hw' a' => ?_, fun w1 w2 q1 q2 a1 a2 => ?_⟩, Qg_cong hg (fun k hk => by funext i; rw [up2_at, if_neg (by omega), up2_at, if_neg (by omega), up2_at, if_neg (by omega)]), c, k1, fun w' hw' y => ?_, k3, fun w' hw' y => ?_⟩
  · rcases act_send a' with q | ⟨q, a'⟩
    · exact ⟨e, he, by rw [e14, if_pos q], by rw [e9, if_pos rfl]; decide⟩
    · obtain ⟨e', g1, g2, g3⟩ := h4 w' hw' a'
      refine ⟨e', g1, by rw [e14, if_neg q]; exact g2, ?_⟩
      rw [e9]
      by_cases r : e' = e
      · rw [if_pos r]; decide
      · rw [if_neg r]; exact g3
  · rw [e14, e14]
    rcases act_send a1 with r1 | ⟨r1, a1⟩ <;> rcases act_send a2 with r2 | ⟨r2, a2⟩
    · intro _; rw [r1, r2]
    · rw [if_pos r1, if_neg r2]; intro x; exact absurd x.symm (busy w2 q2 a2)
    · rw [if_neg r1, if_pos r2]; intro x; exact absurd x (busy w1 q1 a1)
    · rw [if_neg r1, if_neg r2]; exact h5 w1 w2 q1 q2 a1 a2
  · rw [e13] at y
    by_cases q : w' = w
    · rw [q]; exact k2 w hw (.inl z13)
    · rw [if_neg q] at y; exact k2 w' hw' y
  · rw [e13] at y
    by_cases q : w' = w
    · rw [if_pos q] at y; exact absurd y (by decide)
    · rw [if_neg q] at y
      obtain ⟨e', p, d', g1, g2, g3, g4, g5, g6, g7, g8⟩ := k4 w' hw' y
      refine ⟨e', p, d', g1, g2, g3, by rw [e14, if_neg q]; exact g4, ?_, ?_, g7, g8⟩
      · rw [up2_at, if_neg (by omega), up2_at, if_neg (by omega), up2_at, if_neg (by omega)]; exact g5
      · rw [up2_at, if_neg (by omega), up2_at, if_neg (by omega), up2_at, if_neg (by omega)]; exact g6
/-- a free escort is placed elsewhere -/
theorem Qi_place (h : Qi s n m) {e : Nat} (he : e < 4) (z9 : s 9 e = 0) (v : Int32) : Qi (up2 s 7 e v) n m := by
  obtain ⟨hs, hg, c, k1, k2, k3, k4⟩ := h
  refine ⟨Qs_7 hs e v, Qg_cong hg (fun k hk => by funext i; rw [up2_at, if_neg (by omega)]), c, k1, k2, k3, fun w' hw' y => ?_⟩
  have y' : s 13 w' = 2 := y
  obtain ⟨e', p, d', g1, g2, g3, g4, g5, g6, g7, g8⟩ := k4 w' hw' y'
  obtain ⟨e2, q1, q2, q3⟩ := hs.2.2.2.1 w' hw' (.inr y')
  have ee : e' = e2 := nI8 (by omega) (by omega) (g4.symm.trans q2)
  have hee : e' ≠ e := fun x => q3 (by rw [← ee, x]; exact z9)
  exact ⟨e', p, d', g1, g2, g3, g4, by rw [up2_at, if_neg (fun y => hee y.2)]; exact g5, g6, g7, g8⟩
theorem Qi_cong {s' : Nat → Nat → Int32} (h : Qi s n m) (e : ∀ k, k = 5 ∨ k = 7 ∨ k = 9 ∨ (11 ≤ k ∧ k ≤ 14) ∨ (18 ≤ k ∧ k ≤ 20) → s' k = s k) : Qi s' n m :=
  ⟨Qs_cong h.1 (fun k hk => e k (by omega)), Qg_cong h.2.1 (fun k hk => e k (by omega)), Qb_cong h.2.2 (fun k hk => e k (by omega))⟩
theorem Qi_cam (h : Qi s n m) (i : Nat) {v : Int32} (hv : v = 0 ∨ v = 1) : Qi (up2 s 5 i v) n m := by
  obtain ⟨⟨h1, h2, h3, h4, h5⟩, hg, hb⟩ := h
  refine ⟨⟨h1, fun j hj => ?_, h3, h4, h5⟩, hg, hb⟩
  by_cases q : j = i
  · rw [up2_at, if_pos ⟨rfl, q⟩]; exact hv
  · rw [up2_at, if_neg (fun y => q y.2)]; exact h2 j hj
theorem Qi_ask (h : Qi s n m) (hn : n < 8) (z13 : s 13 n = 0) {f d : Nat} (hf : f < 8) (hd : d < 8) (hne : f ≠ d) : Qi (s_ask s n (nI f) (nI d)) (n + 1) m := by
  obtain ⟨⟨h1, h2, h3, h4, h5⟩, hg, c, k1, k2, k3, k4⟩ := h
  have g13 : ∀ w, s_ask s n (nI f) (nI d) 13 w = s 13 w := fun w => rfl
  have g9 : ∀ w, s_ask s n (nI f) (nI d) 9 w = s 9 w := fun w => rfl
  have g7 : ∀ w, s_ask s n (nI f) (nI d) 7 w = s 7 w := fun w => rfl
  have g14 : ∀ w, w ≠ n → s_ask s n (nI f) (nI d) 14 w = s 14 w := fun w hw => by unfold s_ask; rw [up2_at, if_neg (by omega), up2_at, if_neg (fun y => hw y.2)]; rfl
  have g12 : ∀ w, w ≠ n → s_ask s n (nI f) (nI d) 12 w = s 12 w := fun w hw => by unfold s_ask; rw [up2_at, if_neg (by omega), up2_at, if_neg (by omega), up2_at, if_neg (fun y => hw y.2)]; rfl
  have g11 : ∀ w, w ≠ n → s_ask s n (nI f) (nI d) 11 w = s 11 w := fun w hw => by unfold s_ask; rw [up2_at, if_neg (by omega), up2_at, if_neg (by omega), up2_at, if_neg (by omega), up2_at, if_neg (fun y => hw y.2)]
  have na : ¬ Act s n := fun y => by unfold Act at y; rw [z13] at y; rcases y with y | y <;> exact absurd y (by decide)
  have ac : ∀ w, Act (s_ask s n (nI f) (nI d)) w → Act s w := fun w y => y
  refine ⟨⟨by omega, h2, fun w hw => ?_, fun w hw a => ?_, fun w w' hw hw' a a' => ?_⟩, fun j hj => (let ⟨a, b, c, h1, h2, h3⟩ := hg j hj; ⟨a, b, c, h1, by omega, h3⟩), c, k1, fun w hw y => ?_, fun w g1 g2 => k3 w (by omega) g2, fun w hw y => ?_⟩
  · by_cases q : w = n
    · subst q
      have e1 : s_ask s w (nI f) (nI d) 11 w = nI f := by simp [s_ask, up2_at]
      have e2 : s_ask s w (nI f) (nI d) 12 w = nI d := by simp [s_ask, up2_at]
      rw [e1, e2]; exact fun x => hne (nI8 hf hd x)
    · rw [g11 w q, g12 w q]; exact h3 w (by omega)
  · have q : w ≠ n := fun q => na (q ▸ ac w a)
    obtain ⟨e, r1, r2, r3⟩ := h4 w (by omega) (ac w a)
    exact ⟨e, r1, by rw [g14 w q]; exact r2, r3⟩
  · have q : w ≠ n := fun q => na (q ▸ ac w a)
    have q' : w' ≠ n := fun q => na (q ▸ ac w' a')
    rw [g14 w q, g14 w' q']
    exact h5 w w' (by omega) (by omega) (ac w a) (ac w' a')
  · by_cases q : w = n
    · rw [q]; exact k3 n (Nat.le_refl _) hn
    · exact k2 w (by omega) y
  · have y : s 13 w = 2 := y
    have q : w ≠ n := fun q => by rw [q, z13] at y; exact absurd y (by decide)
    obtain ⟨e', p, d', r1, r2, r3, r4, r5, r6, r7, r8⟩ := k4 w (by omega) y
    exact ⟨e', p, d', r1, r2, r3, by rw [g14 w q]; exact r4, r5, by rw [g12 w q]; exact r6, r7, r8⟩
theorem Qg_pic (h : Qg s n m) {a b c : Nat} (ha : a < 8) (hb : b < n) (hc : c ≤ 1000) (x : Int32) : Qg (s_pic s m (nI a) (nI b) (nI c) x) n (m + 1) := by
  intro j hj
  by_cases q : j = m
  · exact ⟨a, b, c, ha, hb, hc, by simp [s_pic, up2_at, q], by simp [s_pic, up2_at, q], by simp [s_pic, up2_at, q]⟩
  · obtain ⟨a', b', c', h1, h2, h3, h4, h5, h6⟩ := h j (by omega)
    exact ⟨a', b', c', h1, h2, h3, by simpa [s_pic, up2_at, q] using h4, by simpa [s_pic, up2_at, q] using h5, by simpa [s_pic, up2_at, q] using h6⟩
end S2Q
