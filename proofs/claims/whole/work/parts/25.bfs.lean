/-! the whole search -/
abbrev bop (e : BE) (i j : Nat) : Nat := if e.2.1 = 0 then 10 * i + j else e.2.2
def bSo (bl : List BE) : Prop := ∀ (a b : Nat) (e e' : BE), a ≤ b → bl[a]? = some e → bl[b]? = some e' → e.2.1 ≤ e'.2.1 ∧ (e.2.1 = e'.2.1 → e.2.2 ≤ e'.2.2)
def bDi (bl : List BE) : Prop := ∀ (k k' : Nat) (e e' : BE), bl[k]? = some e → bl[k']? = some e' → e.1 = e'.1 → k = k'
def bHd (bl : List BE) : Prop := ∀ (k : Nat) (e : BE), bl[k]? = some e → (e.2.1 = 0 ↔ k = 0) ∧ e.2.2 ≤ 55 ∧ e.2.1 ≤ k
/-- while the askings of e, the o-th one, are gone through -/
def JI (N : Nat) (lq : Nat → Nat) (e : BE) (o i j : Nat) (bl : List BE) : Prop :=
  bl[o]? = some e ∧ bDi bl ∧ (∀ x ∈ bl, ∃ l, l < N ∧ lq l = x.1) ∧ bSo bl ∧ bHd bl ∧ (∀ x ∈ bl, x.2.1 ≤ e.2.1 + 1 ∧ (x.2.1 = e.2.1 + 1 → x.2.2 ≤ bop e i j))
def BIv (N : Nat) (lq : Nat → Nat) (s : List BE × Nat) : Prop :=
  s.2 ≤ s.1.length ∧ bDi s.1 ∧ (∀ x ∈ s.1, ∃ l, l < N ∧ lq l = x.1) ∧ bSo s.1 ∧ bHd s.1 ∧ (∀ c : BE, s.1[s.2]? = some c → ∀ x ∈ s.1, x.2.1 ≤ c.2.1 + 1 ∧ (x.2.1 = c.2.1 + 1 → x.2.2 ≤ bop c 0 0))
theorem get_app {bl : List BE} {y e : BE} {k : Nat} (h : (bl ++ [y])[k]? = some e) : (k < bl.length ∧ bl[k]? = some e) ∨ (k = bl.length ∧ e = y) := by
  rcases Nat.lt_trichotomy k bl.length with q | q | q
  · rw [List.getElem?_append_left q] at h
    exact Or.inl ⟨q, h⟩
  · subst q
    rw [List.getElem?_append_right (Nat.le_refl _)] at h
    simp at h
    exact Or.inr ⟨rfl, h.symm⟩
  · rw [List.getElem?_append_right (by omega)] at h
    rw [List.getElem?_eq_none (by simp; omega)] at h
    cases h
theorem JI_nx {T : TB} {N : Nat} {lq : Nat → Nat} {e : BE} {o i j : Nat} {bl : List BE} (hn : tn T ≤ 6) (hc : Clo T N lq) (h : JI N lq e o i j bl) : JI N lq e o i (j + 1) (bnx T e i j bl) := by
  obtain ⟨h1, h2, h3, h4, h5, h6⟩ := h
  have hop : bop e i j ≤ bop e i (j + 1) := by unfold bop; split <;> omega
  have ho := (List.getElem?_eq_some_iff.mp h1).1
  unfold bnx
  split
  · rename_i hq
    obtain ⟨q1, q2⟩ := hq
    obtain ⟨l, hl, hle⟩ := h3 e (List.mem_of_getElem? h1)
    have hi6 : i < 6 ∧ j < 6 := ⟨by have := q1.2.1; omega, by have := q1.2.2.1; omega⟩
    have hb55 : bop e i j ≤ 55 := by
      have := (h5 o e h1).2.1
      unfold bop; split <;> omega
    refine ⟨by rw [List.getElem?_append_left ho]; exact h1, fun k k' a a' ha ha' he => ?_, fun x hx => ?_, fun a b x x' hab hx hx' => ?_, fun k x hx => ?_, fun x hx => ?_⟩
    · rcases get_app ha with ⟨z1, z2⟩ | ⟨z1, rfl⟩ <;> rcases get_app ha' with ⟨y1, y2⟩ | ⟨y1, rfl⟩
      · exact h2 k k' a a' z2 y2 he
      · exact absurd he (q2 a (List.mem_of_getElem? z2))
      · exact absurd he.symm (q2 a' (List.mem_of_getElem? y2))
      · omega
    · rcases List.mem_append.mp hx with hx | hx
      · exact h3 x hx
      · rw [List.mem_singleton.mp hx]
        rw [← hle] at q1 ⊢
        exact hc l i j hl q1
    · rcases get_app hx with ⟨z1, z2⟩ | ⟨z1, rfl⟩ <;> rcases get_app hx' with ⟨y1, y2⟩ | ⟨y1, rfl⟩
      · exact h4 a b x x' hab z2 y2
      · exact h6 x (List.mem_of_getElem? z2)
      · omega
      · exact ⟨Nat.le_refl _, fun _ => Nat.le_refl _⟩
    · rcases get_app hx with ⟨z1, z2⟩ | ⟨z1, rfl⟩
      · exact h5 k x z2
      · have := (h5 o e h1).2.2
        exact ⟨⟨fun z => absurd z (Nat.succ_ne_zero _), fun z => by omega⟩, hb55, by show e.2.1 + 1 ≤ k; omega⟩
    · rcases List.mem_append.mp hx with hx | hx
      · exact ⟨(h6 x hx).1, fun z => Nat.le_trans ((h6 x hx).2 z) hop⟩
      · rw [List.mem_singleton.mp hx]
        exact ⟨Nat.le_refl _, fun _ => hop⟩
  · exact ⟨h1, h2, h3, h4, h5, fun x hx => ⟨(h6 x hx).1, fun z => Nat.le_trans ((h6 x hx).2 z) hop⟩⟩
noncomputable def bAn (T : TB) (e : BE) : Nat → Nat → List BE → List BE
  | 0, _, bl => bl
  | c + 1, a, bl => bAn T e c (a + 1) (bnx T e (a / tn T) (a % tn T) bl)
theorem bAn_app {T : TB} {e : BE} : ∀ c d a (bl : List BE), bAn T e (c + d) a bl = bAn T e d (a + c) (bAn T e c a bl)
  | 0, d, a, bl => by rw [Nat.zero_add]; rfl
  | c + 1, d, a, bl => by
    rw [show c + 1 + d = (c + d) + 1 by omega, show a + (c + 1) = (a + 1) + c by omega]
    exact bAn_app c d (a + 1) _
theorem bJ_A {T : TB} {e : BE} {i : Nat} : ∀ c j (bl : List BE), j + c ≤ tn T → bJ T e i c j bl = bAn T e c (i * tn T + j) bl
  | 0, _, _, _ => rfl
  | c + 1, j, bl, h => by
    unfold bJ bAn
    have h0 : 0 < tn T := by omega
    rw [show (i * tn T + j) / tn T = i by rw [Nat.mul_comm, Nat.mul_add_div h0, Nat.div_eq_of_lt (by omega)]; omega, show (i * tn T + j) % tn T = j by rw [Nat.mul_comm, Nat.mul_add_mod, Nat.mod_eq_of_lt (by omega)]]
    exact bJ_A c (j + 1) _ (by omega)
theorem bI_A {T : TB} {e : BE} : ∀ c i (bl : List BE), bI T e c i bl = bAn T e (c * tn T) (i * tn T) bl
  | 0, i, bl => by rw [Nat.zero_mul]; rfl
  | c + 1, i, bl => by
    unfold bI
    rw [bI_A c (i + 1), bJ_A (tn T) 0 bl (by omega), show (c + 1) * tn T = tn T + c * tn T by rw [Nat.succ_mul, Nat.add_comm], bAn_app, Nat.succ_mul i, Nat.add_zero]
theorem JI_op {N : Nat} {lq : Nat → Nat} {e : BE} {o i j i' j' : Nat} {bl : List BE} (h : JI N lq e o i j bl) (hh : 10 * i + j ≤ 10 * i' + j') : JI N lq e o i' j' bl := by
  obtain ⟨h1, h2, h3, h4, h5, h6⟩ := h
  have hop : bop e i j ≤ bop e i' j' := by unfold bop; split <;> omega
  exact ⟨h1, h2, h3, h4, h5, fun x hx => ⟨(h6 x hx).1, fun z => Nat.le_trans ((h6 x hx).2 z) hop⟩⟩
theorem JI_A {T : TB} {N : Nat} {lq : Nat → Nat} {e : BE} {o : Nat} (hn : tn T ≤ 6) (hn0 : 0 < tn T) (hc : Clo T N lq) : ∀ c a (bl : List BE), JI N lq e o (a / tn T) (a % tn T) bl → JI N lq e o ((a + c) / tn T) ((a + c) % tn T) (bAn T e c a bl)
  | 0, _, _, h => h
  | c + 1, a, bl, h => by
    unfold bAn
    rw [show a + (c + 1) = (a + 1) + c by omega]
    refine JI_A hn hn0 hc c (a + 1) _ (JI_op (JI_nx hn hc h) ?_)
    have e1 := Nat.div_add_mod a (tn T)
    have e2 := Nat.div_add_mod (a + 1) (tn T)
    have e3 := Nat.mod_lt a hn0
    have e4 := Nat.mod_lt (a + 1) hn0
    by_cases hz : a % tn T + 1 < tn T
    · have d1 : (a + 1) / tn T = a / tn T := by
        rw [Nat.div_eq_iff hn0]
        rw [Nat.mul_comm] at e1
        constructor <;> omega
      rw [d1] at e2 ⊢
      omega
    · have d1 : (a + 1) / tn T = a / tn T + 1 := by
        have e5 : a + 1 = tn T * (a / tn T + 1) := by rw [Nat.mul_add]; omega
        rw [e5, Nat.mul_div_cancel_left _ hn0]
      rw [d1]
      omega
theorem BIv_JI {N : Nat} {lq : Nat → Nat} {s : List BE × Nat} {e : BE} (h : BIv N lq s) (he : s.1[s.2]? = some e) : JI N lq e s.2 0 0 s.1 := by
  obtain ⟨h1, h2, h3, h4, h5, h6⟩ := h
  exact ⟨he, h2, h3, h4, h5, h6 e he⟩
theorem JI_BIv {N : Nat} {lq : Nat → Nat} {e : BE} {o i j : Nat} {bl : List BE} (h : JI N lq e o i j bl) (hz : e.2.1 = 0 → o = 0) : BIv N lq (bl, o + 1) := by
  obtain ⟨h1, h2, h3, h4, h5, h6⟩ := h
  have ho := (List.getElem?_eq_some_iff.mp h1).1
  refine ⟨ho, h2, h3, h4, h5, fun c hc x hx => ?_⟩
  have hc' : bl[o + 1]? = some c := hc
  obtain ⟨s1, s2⟩ := h4 o (o + 1) e c (by omega) h1 hc'
  have hx6 := h6 x hx
  have hcc := h5 (o + 1) c hc'
  have hc0 : c.2.1 ≠ 0 := fun z => by have := hcc.1.mp z; omega
  refine ⟨by omega, fun z => ?_⟩
  have z2 : c.2.1 = e.2.1 := by omega
  have hop : bop e i j = e.2.2 := by unfold bop; rw [if_neg (by omega)]
  have := hx6.2 (by omega)
  have := s2 z2.symm
  show x.2.2 ≤ bop c 0 0
  unfold bop
  rw [if_neg hc0]
  omega
theorem BIv_X {T : TB} {N : Nat} {lq : Nat → Nat} {s : List BE × Nat} (hn : tn T ≤ 6) (hn0 : 0 < tn T) (hc : Clo T N lq) (h : BIv N lq s) : BIv N lq (bX T s) := by
  unfold bX
  split
  · exact h
  · rename_i e he
    have hj := BIv_JI h he
    rw [bI_A]
    have hj2 := JI_A hn hn0 hc (tn T * tn T) 0 s.1 (by rw [Nat.zero_div, Nat.zero_mod]; exact hj)
    rw [Nat.zero_mul]
    exact JI_BIv hj2 (fun z => (h.2.2.2.2.1 s.2 e he).1.mp z)
theorem BIv_Xn {T : TB} {N : Nat} {lq : Nat → Nat} (hn : tn T ≤ 6) (hn0 : 0 < tn T) (hc : Clo T N lq) : ∀ m (s : List BE × Nat), BIv N lq s → BIv N lq (bXn T m s)
  | 0, _, h => h
  | m + 1, s, h => BIv_Xn hn hn0 hc m _ (BIv_X hn hn0 hc h)
theorem BIv_0 {N l0 : Nat} {lq : Nat → Nat} (h : l0 < N) : BIv N lq (st0 (lq l0)) := by
  have one : ∀ (k : Nat) (e : BE), [((lq l0, 0, 0) : BE)][k]? = some e → k = 0 ∧ e = (lq l0, 0, 0) := fun k e hk => by
    cases k with
    | zero => simp at hk; exact ⟨rfl, hk.symm⟩
    | succ k => simp at hk
  refine ⟨by simp, fun k k' e e' hk hk' _ => by have := one k e hk; have := one k' e' hk'; omega, fun x hx => ?_, fun a b e e' _ ha hb => ?_, fun k e hk => ?_, fun c hc x hx => ?_⟩
  · rw [List.mem_singleton.mp hx]; exact ⟨l0, h, rfl⟩
  · rw [(one a e ha).2, (one b e' hb).2]; exact ⟨Nat.le_refl _, fun _ => Nat.le_refl _⟩
  · obtain ⟨rfl, rfl⟩ := one k e hk; exact ⟨⟨fun _ => rfl, fun _ => rfl⟩, Nat.zero_le _, Nat.le_refl _⟩
  · rw [List.mem_singleton.mp hx]; exact ⟨Nat.zero_le _, fun _ => Nat.zero_le _⟩
theorem BIv.len {N : Nat} {lq : Nat → Nat} {s : List BE × Nat} (h : BIv N lq s) : s.1.length ≤ N := by
  obtain ⟨h1, h2, h3, -⟩ := h
  have key : ∀ k, k < s.1.length → ∃ l, l < N ∧ ∃ e : BE, s.1[k]? = some e ∧ lq l = e.1 := fun k hk => by
    obtain ⟨l, l1, l2⟩ := h3 s.1[k] (List.getElem_mem hk)
    exact ⟨l, l1, s.1[k], List.getElem?_eq_getElem hk, l2⟩
  classical
  refine php N s.1.length (fun k => if hk : k < s.1.length then Classical.choose (key k hk) else 0) (fun k hk => ?_) (fun i j hi hj e => ?_)
  · rw [dif_pos hk]; exact (Classical.choose_spec (key k hk)).1
  · rw [dif_pos hi, dif_pos hj] at e
    obtain ⟨-, e1, p1, p2⟩ := Classical.choose_spec (key i hi)
    obtain ⟨-, e2, r1, r2⟩ := Classical.choose_spec (key j hj)
    exact h2 i j e1 e2 p1 r1 (by rw [← p2, ← r2, e])
theorem bXn_o {T : TB} {q : Nat} : ∀ m, (bXn T m (st0 q)).2 = m ∨ ((bXn T m (st0 q)).2 ≤ m ∧ (bXn T m (st0 q)).1.length ≤ (bXn T m (st0 q)).2)
  | 0 => Or.inl rfl
  | m + 1 => by
    rw [bXn_s]
    unfold bX
    rcases bXn_o (T := T) (q := q) m with h | h
    · split
      · rename_i hn
        rw [List.getElem?_eq_none_iff] at hn
        exact Or.inr ⟨by omega, hn⟩
      · exact Or.inl (by show _ + 1 = m + 1; omega)
    · rw [List.getElem?_eq_none (by omega)]
      exact Or.inr ⟨show (bXn T m (st0 q)).2 ≤ m + 1 by omega, h.2⟩
theorem bX_done {T : TB} {s : List BE × Nat} (h : s.1.length ≤ s.2) : bX T s = s := by
  unfold bX; rw [List.getElem?_eq_none h]
theorem bXn_done {T : TB} {s : List BE × Nat} (h : s.1.length ≤ s.2) : ∀ m, bXn T m s = s
  | 0 => rfl
  | m + 1 => by
    show bXn T m (bX T s) = s
    rw [bX_done h]; exact bXn_done h m
/-- all that is ever reached, in order -/
noncomputable def FB (T : TB) (q : Nat) : List BE := (bXn T 720 (st0 q)).1
def goodT (T : TB) (N : Nat) (lq : Nat → Nat) : Prop := tn T ≤ 6 ∧ 0 < tn T ∧ Clo T N lq ∧ N ≤ 720
theorem FB_done {T : TB} {N l0 : Nat} {lq : Nat → Nat} (hg : goodT T N lq) (h : l0 < N) : (bXn T 720 (st0 (lq l0))).1.length ≤ (bXn T 720 (st0 (lq l0))).2 ∧ BIv N lq (bXn T 720 (st0 (lq l0))) := by
  obtain ⟨g1, g2, g3, g4⟩ := hg
  have hb := BIv_Xn g1 g2 g3 720 _ (BIv_0 h)
  refine ⟨?_, hb⟩
  rcases bXn_o (T := T) (q := lq l0) 720 with q | q
  · have := hb.len; omega
  · exact q.2
theorem FB_pre {T : TB} {N l0 m k : Nat} {lq : Nat → Nat} {x : BE} (hg : goodT T N lq) (h : l0 < N) (hx : (bXn T m (st0 (lq l0))).1[k]? = some x) : (FB T (lq l0))[k]? = some x := by
  have hd := (FB_done hg h).1
  unfold FB
  rcases Nat.le_total m 720 with q | q
  · have := bXn_add (T := T) m (720 - m) (st0 (lq l0))
    rw [show m + (720 - m) = 720 by omega] at this
    rw [← this]
    exact bXn_mem _ _ hx
  · have := bXn_add (T := T) 720 (m - 720) (st0 (lq l0))
    rw [show 720 + (m - 720) = m by omega, bXn_done hd] at this
    rw [this]; exact hx
theorem FB_end {T : TB} {N l0 m : Nat} {lq : Nat → Nat} (hg : goodT T N lq) (h : l0 < N) (hx : (bXn T m (st0 (lq l0))).1.length ≤ (bXn T m (st0 (lq l0))).2) : FB T (lq l0) = (bXn T m (st0 (lq l0))).1 := by
  have hd := (FB_done hg h).1
  unfold FB
  rcases Nat.le_total m 720 with q | q
  · have := bXn_add (T := T) m (720 - m) (st0 (lq l0))
    rw [show m + (720 - m) = 720 by omega, bXn_done hx] at this
    rw [this]
  · have := bXn_add (T := T) 720 (m - 720) (st0 (lq l0))
    rw [show 720 + (m - 720) = m by omega, bXn_done hd] at this
    rw [this]
theorem FB_len {T : TB} {N l0 : Nat} {lq : Nat → Nat} (hg : goodT T N lq) (h : l0 < N) : (FB T (lq l0)).length ≤ 720 := Nat.le_trans (FB_done hg h).2.len hg.2.2.2
/-- looked through without finding -/
theorem FB_none {T : TB} {N l0 m k : Nat} {lq : Nat → Nat} {Pd : BE → Prop} (hg : goodT T N lq) (h : l0 < N) (hL : LKp Pd 1000000 (bXn T m (st0 (lq l0))) k) : ∀ x ∈ FB T (lq l0), ¬ Pd x := by
  obtain ⟨h1, h2⟩ := hL
  have hB := BIv_Xn hg.1 hg.2.1 hg.2.2.1 m _ (BIv_0 (lq := lq) h)
  have hFB := (FB_done hg h).2
  have hlen : (FB T (lq l0)).length ≤ k := by
    rcases h2 with h2 | ⟨h2, h3⟩
    · have := FB_len hg h; omega
    · have hk : (bXn T m (st0 (lq l0))).1.length ≤ k := by
        refine Classical.byContradiction fun z => ?_
        have hx := List.getElem?_eq_getElem (show k < (bXn T m (st0 (lq l0))).1.length by omega)
        have := h3 _ hx
        have := (hB.2.2.2.2.1 _ _ hx).2.2
        have := hB.len
        have := hg.2.2.2
        omega
      have hd : (bXn T m (st0 (lq l0))).1.length ≤ (bXn T m (st0 (lq l0))).2 := by
        refine Classical.byContradiction fun z => h2 ⟨by omega, hk, ?_⟩
        have hx := List.getElem?_eq_getElem (show (bXn T m (st0 (lq l0))).2 < (bXn T m (st0 (lq l0))).1.length by omega)
        refine ⟨_, hx, ?_⟩
        have := (hB.2.2.2.2.1 _ _ hx).2.2
        have := hB.len
        have := hg.2.2.2
        omega
      rw [FB_end hg h hd]; exact hk
  intro x hx
  obtain ⟨i, hi, rfl⟩ := List.mem_iff_getElem.mp hx
  obtain ⟨y, y1, y2⟩ := h1 i (by omega)
  have := FB_pre hg h y1
  rw [List.getElem?_eq_getElem hi] at this
  rw [Option.some.inj this]
  exact y2
/-- first one found, in the whole search -/
def FST (Pd : BE → Prop) (L : List BE) (k : Nat) (e : BE) : Prop := L[k]? = some e ∧ Pd e ∧ ∀ k' x, k' < k → L[k']? = some x → ¬ Pd x
theorem FB_fst {T : TB} {N l0 m k : Nat} {lq : Nat → Nat} {Pd : BE → Prop} {e : BE} (hg : goodT T N lq) (h : l0 < N) (hL : FDp Pd (bXn T m (st0 (lq l0))) k e) : FST Pd (FB T (lq l0)) k e := by
  obtain ⟨h1, h2, h3⟩ := hL
  refine ⟨FB_pre hg h h2, h3, fun k' x hk hx => ?_⟩
  obtain ⟨y, y1, y2⟩ := h1 k' hk
  have := FB_pre hg h y1
  rw [hx] at this
  cases this
  exact y2
theorem FST_u {Pd : BE → Prop} {L : List BE} {k k' : Nat} {e e' : BE} (h : FST Pd L k e) (h' : FST Pd L k' e') : k = k' ∧ e = e' := by
  have : k = k' := by
    rcases Nat.lt_trichotomy k k' with q | q | q
    · exact absurd h.2.1 (h'.2.2 k e q h.1)
    · exact q
    · exact absurd h'.2.1 (h.2.2 k' e' q h'.1)
  subst this
  have := h.1
  rw [h'.1] at this
  cases this
  exact ⟨rfl, rfl⟩
theorem FST_ex {Pd : BE → Prop} : ∀ (L : List BE) (x : BE), x ∈ L → Pd x → ∃ k e, FST Pd L k e
  | [], x, h, _ => by cases h
  | y :: L, x, h, hx => by
    by_cases hy : Pd y
    · exact ⟨0, y, rfl, hy, fun k' _ hk _ => by omega⟩
    · rcases List.mem_cons.mp h with rfl | h
      · exact absurd hx hy
      · obtain ⟨k, e, h1, h2, h3⟩ := FST_ex L x h hx
        refine ⟨k + 1, e, by rw [List.getElem?_cons_succ]; exact h1, h2, fun k' z hk hz => ?_⟩
        cases k' with
        | zero => simp at hz; rw [← hz]; exact hy
        | succ k' => rw [List.getElem?_cons_succ] at hz; exact h3 k' z (by omega) hz
noncomputable def fstN (Pd : BE → Prop) (L : List BE) : Option (Nat × BE) := by classical exact if h : ∃ p : Nat × BE, FST Pd L p.1 p.2 then some (Classical.choose h) else none
theorem fstN_1 {Pd : BE → Prop} {L : List BE} {k : Nat} {e : BE} (h : FST Pd L k e) : fstN Pd L = some (k, e) := by
  unfold fstN
  have hx : ∃ p : Nat × BE, FST Pd L p.1 p.2 := ⟨(k, e), h⟩
  rw [dif_pos hx]
  have := FST_u h (Classical.choose_spec hx)
  rw [show Classical.choose hx = (k, e) from Prod.ext this.1.symm this.2.symm]
theorem fstN_0 {Pd : BE → Prop} {L : List BE} (h : ∀ x ∈ L, ¬ Pd x) : fstN Pd L = none := by
  unfold fstN
  rw [dif_neg]
  rintro ⟨⟨k, e⟩, h1, h2, -⟩
  exact h e (List.mem_of_getElem? h1) h2
