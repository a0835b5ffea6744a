/-! prices: ways and what they cost -/
def aE (T : TB) (q q' w : Nat) : Prop := ∃ i j, can T (dgf q) i j ∧ q' = enc (aft T (dgf q) i j) ∧ w = hnd T i j
def vE (T : TB) (q q' : Nat) : Prop := ∃ i j, i < j ∧ j < tn T ∧ q' = enc (sw (dgf q) i j)
def pE (T : TB) (sv q q' w : Nat) : Prop := aE T q q' w ∨ (vE T q q' ∧ w = sv)
def pth (E : Nat → Nat → Nat → Prop) : Nat → Nat → Nat → Nat → Prop
  | 0, q, q', c => q' = q ∧ c = 0
  | n + 1, q, q', c => ∃ q1 c1 w, pth E n q q1 c1 ∧ E q1 q' w ∧ c = c1 + w
def prS (T : TB) (sv q0 g d : Nat) (r : Int) : Prop := (r = -4 ∧ ∀ n q c, pth (pE T sv) n q0 q c → dgf q g ≠ d) ∨ (∃ n q c, pth (pE T sv) n q0 q c ∧ dgf q g = d ∧ r = ((c : Nat) : Int) ∧ ∀ n' q' c', pth (pE T sv) n' q0 q' c' → dgf q' g = d → c ≤ c')
theorem prS_u {T : TB} {sv q0 g d : Nat} {r r' : Int} (h : prS T sv q0 g d r) (h' : prS T sv q0 g d r') : r = r' := by
  rcases h with ⟨h1, h2⟩ | ⟨n, q, c, h1, h2, h3, h4⟩
  · rcases h' with ⟨h1', h2'⟩ | ⟨n', q', c', h1', h2', h3', h4'⟩
    · omega
    · exact absurd h2' (h2 n' q' c' h1')
  · rcases h' with ⟨h1', h2'⟩ | ⟨n', q', c', h1', h2', h3', h4'⟩
    · exact absurd h2 (h2' n q c h1)
    · have a := h4 n' q' c' h1' h2'
      have b := h4' n q c h1 h2
      omega
theorem pth_ask {T : TB} {sv : Nat} : ∀ n q q' c, pth (pE T sv) n q q' c → pth (aE T) n q q' c ∨ sv ≤ c
  | 0, q, q', c, h => Or.inl h
  | n + 1, q, q', c, h => by
    obtain ⟨q1, c1, w, h1, h2, h3⟩ := h
    rcases pth_ask n q q1 c1 h1 with a | a
    · rcases h2 with b | ⟨b1, b2⟩
      · exact Or.inl ⟨q1, c1, w, a, b, h3⟩
      · right; omega
    · right; omega
theorem pth_all {T : TB} {sv : Nat} : ∀ n q q' c, pth (aE T) n q q' c → pth (pE T sv) n q q' c
  | 0, q, q', c, h => h
  | n + 1, q, q', c, h => by
    obtain ⟨q1, c1, w, h1, h2, h3⟩ := h
    exact ⟨q1, c1, w, pth_all n q q1 c1 h1, Or.inl h2, h3⟩
def inN (N : Nat) (lq : Nat → Nat) (q : Nat) : Prop := ∃ l, l < N ∧ lq l = q
theorem pE_in {T : TB} {N sv q q' w : Nat} {lq f0 : Nat → Nat} (hX : KX T N lq f0) (h : inN N lq q) (he : pE T sv q q' w) : inN N lq q' := by
  obtain ⟨l, l1, l2⟩ := h
  rcases he with ⟨i, j, h1, h2, h3⟩ | ⟨⟨i, j, h1, h2, h3⟩, -⟩
  · rw [← l2] at h1 h2
    obtain ⟨l', a1, a2⟩ := hX.1.2.2.1 l i j l1 h1
    exact ⟨l', a1, by rw [a2, h2]⟩
  · rw [← l2] at h3
    obtain ⟨l', a1, a2⟩ := hX.2.1.2 (sw (dgf (lq l)) i j) (sw_lo (dgf_lo _)) (AR_sw (hX.2.1.1 l l1).2 (by omega) h2)
    exact ⟨l', a1, by rw [a2, h3]⟩
theorem pth_in {T : TB} {N sv : Nat} {lq f0 : Nat → Nat} (hX : KX T N lq f0) : ∀ n q q' c, inN N lq q → pth (pE T sv) n q q' c → inN N lq q'
  | 0, q, q', c, h, hp => by rw [hp.1]; exact h
  | n + 1, q, q', c, h, hp => by
    obtain ⟨q1, c1, w, h1, h2, h3⟩ := hp
    exact pE_in hX (pth_in hX n q q1 c1 h h1) h2
/-! the buckets -/
def leP (pr : Int) (p p' : Nat → Int) : Prop := ∀ b, p' b = p b ∨ (pr < p' b ∧ p' b < p b)
theorem leP.refl {pr : Int} {p : Nat → Int} : leP pr p p := fun _ => Or.inl rfl
theorem leP.trans {pr : Int} {p p' p'' : Nat → Int} (h : leP pr p p') (h' : leP pr p' p'') : leP pr p p'' := fun b => by
  have a := h b
  have c := h' b
  omega
def SNp (T : TB) (N : Nat) (lq : Nat → Nat) (q0 : Nat) (p : Nat → Int) : Prop := ∀ l, l < N → p l < 1000000 → ∃ n c, pth (aE T) n q0 (lq l) c ∧ p l = ((c : Nat) : Int)
def mfl (T : TB) (N : Nat) (lq : Nat → Nat) (l : Nat) (mf : Nat → Nat → Nat) : Prop := ∀ i j, (can T (dgf (lq l)) i j → ∃ l', l' < N ∧ mf i j = l' ∧ lq l' = enc (aft T (dgf (lq l)) i j)) ∧ (¬ can T (dgf (lq l)) i j → mf i j = 1023)
section BUCK
variable {T : TB} {N q0 l pr : Nat} {lq : Nat → Nat} {mf : Nat → Nat → Nat}
theorem bk1 {i j : Nat} {p : Nat → Int} (h6 : tn T ≤ 6) (hN : N ≤ 720) (hm : mfl T N lq l mf) (hP : ∃ n, pth (aE T) n q0 (lq l) pr) (hS : SNp T N lq q0 p) : SNp T N lq q0 (sp1 T mf pr i j p) ∧ leP pr p (sp1 T mf pr i j p) ∧ (mf i j ≠ 1023 → sp1 T mf pr i j p (mf i j) ≤ pr + hnd T i j) := by
  unfold sp1
  by_cases z : mf i j ≠ 1023 ∧ (pr : Int) + hnd T i j < p (mf i j)
  · rw [if_pos z]
    have hc : can T (dgf (lq l)) i j := Classical.byContradiction fun y => z.1 ((hm i j).2 y)
    obtain ⟨l', a1, a2, a3⟩ := (hm i j).1 hc
    have hw := hnd_pos h6 hc.2.1 hc.2.2.1 hc.1
    refine ⟨fun x hx hp => ?_, fun b => ?_, fun _ => ?_⟩
    · (try dsimp only at hp ⊢)
      by_cases y : x = mf i j
      · rw [if_pos y]
        obtain ⟨n, hn⟩ := hP
        exact ⟨n + 1, pr + hnd T i j, ⟨lq l, pr, hnd T i j, hn, ⟨i, j, hc, by rw [y, a2, a3], rfl⟩, rfl⟩, by omega⟩
      · rw [if_neg y] at hp ⊢
        exact hS x hx hp
    · (try dsimp only)
      by_cases y : b = mf i j
      · rw [if_pos y, y]; right; omega
      · rw [if_neg y]; left; rfl
    · (try dsimp only)
      rw [if_pos rfl]; omega
  · rw [if_neg z]
    exact ⟨hS, leP.refl, fun y => by
      refine Classical.byContradiction fun x => z ⟨y, by omega⟩⟩
theorem bkJ {i : Nat} (h6 : tn T ≤ 6) (hN : N ≤ 720) (hm : mfl T N lq l mf) (hP : ∃ n, pth (aE T) n q0 (lq l) pr) : ∀ c j (p : Nat → Int), SNp T N lq q0 p → SNp T N lq q0 (spJ T mf pr i c j p) ∧ leP pr p (spJ T mf pr i c j p) ∧ ∀ j', j ≤ j' → j' < j + c → mf i j' ≠ 1023 → spJ T mf pr i c j p (mf i j') ≤ pr + hnd T i j'
  | 0, j, p, hS => ⟨hS, leP.refl, fun j' h1 h2 => by omega⟩
  | c + 1, j, p, hS => by
    obtain ⟨a1, a2, a3⟩ := bk1 (i := i) (j := j) h6 hN hm hP hS
    obtain ⟨b1, b2, b3⟩ := bkJ h6 hN hm hP c (j + 1) _ a1
    refine ⟨b1, a2.trans b2, fun j' h1 h2 h3 => ?_⟩
    show spJ T mf pr i c (j + 1) (sp1 T mf pr i j p) (mf i j') ≤ _
    by_cases y : j' = j
    · rw [y] at h3 ⊢
      have := a3 h3
      have := b2 (mf i j)
      omega
    · exact b3 j' (by omega) (by omega) h3
theorem bkI (h6 : tn T ≤ 6) (hN : N ≤ 720) (hm : mfl T N lq l mf) (hP : ∃ n, pth (aE T) n q0 (lq l) pr) : ∀ c i (p : Nat → Int), SNp T N lq q0 p → SNp T N lq q0 (spI T mf pr c i p) ∧ leP pr p (spI T mf pr c i p) ∧ ∀ i' j', i ≤ i' → i' < i + c → j' < tn T → mf i' j' ≠ 1023 → spI T mf pr c i p (mf i' j') ≤ pr + hnd T i' j'
  | 0, i, p, hS => ⟨hS, leP.refl, fun i' j' h1 h2 => by omega⟩
  | c + 1, i, p, hS => by
    obtain ⟨a1, a2, a3⟩ := bkJ (i := i) h6 hN hm hP (tn T) 0 p hS
    obtain ⟨b1, b2, b3⟩ := bkI h6 hN hm hP c (i + 1) _ a1
    refine ⟨b1, a2.trans b2, fun i' j' h1 h2 hj h3 => ?_⟩
    show spI T mf pr c (i + 1) (spJ T mf pr i (tn T) 0 p) (mf i' j') ≤ _
    by_cases y : i' = i
    · rw [y] at h3 ⊢
      have := a3 j' (by omega) (by omega) h3
      have := b2 (mf i j')
      omega
    · exact b3 i' j' (by omega) (by omega) hj h3
end BUCK
def clP (T : TB) (N : Nat) (lq : Nat → Nat) (p : Nat → Int) (l : Nat) : Prop := ∀ i j l', can T (dgf (lq l)) i j → l' < N → lq l' = enc (aft T (dgf (lq l)) i j) → p l' ≤ p l + hnd T i j
def AIp (T : TB) (N : Nat) (lq : Nat → Nat) (l0 g d : Nat) (pr : Nat) (p : Nat → Int) : Prop := pOK p ∧ SNp T N lq (lq l0) p ∧ p l0 = 0 ∧ ∀ l, l < N → p l < pr → clP T N lq p l ∧ dgf (lq l) g ≠ d
section BUCK2
variable {T : TB} {N l0 g d : Nat} {lq f0 : Nat → Nat} {mf : Nat → Nat → Nat → Nat}
theorem MFl (hm : MFo T N lq mf) {l : Nat} (hl : l < N) : mfl T N lq l (mf l) := fun i j => hm l i j hl
theorem lpL_sp (hX : KX T N lq f0) (hi : ∀ a b, a < N → b < N → lq a = lq b → a = b) (hm : MFo T N lq mf) {pr : Nat} (hpr : pr < 1000000) : ∀ c l (p : Nat → Int), l + c = N → AIp T N lq l0 g d pr p → (∀ x, x < l → p x = (pr : Int) → clP T N lq p x ∧ dgf (lq x) g ≠ d) → (∀ p', lpL T mf lq g d pr c l p = some p' → AIp T N lq l0 g d (pr + 1) p') ∧ (lpL T mf lq g d pr c l p = none → ∃ p' x, AIp T N lq l0 g d pr p' ∧ x < N ∧ p' x = (pr : Int) ∧ dgf (lq x) g = d)
  | 0, l, p, hl, hA, hB => by
    refine ⟨fun p' e => ?_, fun e => by cases e⟩
    have e' : p = p' := Option.some.inj e
    subst e'
    obtain ⟨a1, a2, a3, a4⟩ := hA
    refine ⟨a1, a2, a3, fun x hx hp => ?_⟩
    rcases Int.lt_or_le (p x) pr with z | z
    · exact a4 x hx z
    · exact hB x (by omega) (by omega)
  | c + 1, l, p, hl, hA, hB => by
    unfold lpL
    by_cases z : p l = (pr : Int)
    · rw [if_pos z]
      by_cases y : dgf (lq l) g = d
      · rw [if_pos y]
        exact ⟨fun p' e => (by cases e), fun _ => ⟨p, l, hA, by omega, z, y⟩⟩
      · rw [if_neg y]
        obtain ⟨a1, a2, a3, a4⟩ := hA
        obtain ⟨n, k, hn, hk⟩ := a2 l (by omega) (by omega)
        have hk' : k = pr := by omega
        rw [hk'] at hn
        obtain ⟨b1, b2, b3⟩ := bkI (T := T) (mf := mf l) hX.1.1 hX.1.2.2.2 (MFl hm (by omega)) ⟨n, hn⟩ (tn T) 0 p a2
        have keep : ∀ x, p x ≤ pr → spI T (mf l) pr (tn T) 0 p x = p x := fun x hx => by have := b2 x; omega
        have keep2 : ∀ x, spI T (mf l) pr (tn T) 0 p x ≤ pr → p x = spI T (mf l) pr (tn T) 0 p x := fun x hx => by have := b2 x; omega
        have low : ∀ x, spI T (mf l) pr (tn T) 0 p x ≤ p x := fun x => by have := b2 x; omega
        have cl : ∀ x, p x = spI T (mf l) pr (tn T) 0 p x → clP T N lq p x → clP T N lq (spI T (mf l) pr (tn T) 0 p) x := fun x hx hc i j l' h1 h2 h3 => by
          have := hc i j l' h1 h2 h3
          have := low l'
          omega
        have hA' : AIp T N lq l0 g d pr (spI T (mf l) pr (tn T) 0 p) := by
          refine ⟨spI_ok (by omega) _ _ _ a1, b1, by rw [keep l0 (by omega)]; exact a3, fun x hx hp => ?_⟩
          have e := keep2 x (by omega)
          have := a4 x hx (by omega)
          exact ⟨cl x e this.1, this.2⟩
        refine lpL_sp hX hi hm hpr c (l + 1) _ (by omega) hA' (fun x hx hp => ?_)
        by_cases w : x = l
        · subst w
          refine ⟨fun i j l' h1 h2 h3 => ?_, y⟩
          obtain ⟨l2, c1, c2, c3⟩ := (hm x i j (by omega)).1 h1
          have : l2 = l' := hi l2 l' c1 h2 (by rw [c3, h3])
          have hmn : mf x i j ≠ 1023 := by have := hX.1.2.2.2; omega
          have := b3 i j (by omega) (by have := h1.2.1; omega) h1.2.2.1 hmn
          rw [c2] at this
          rw [hp]
          subst_vars
          omega
        · have e := keep2 x (by omega)
          have := hB x (by omega) (by omega)
          exact ⟨cl x e this.1, this.2⟩
    · rw [if_neg z]
      refine lpL_sp hX hi hm hpr c (l + 1) p (by omega) hA (fun x hx hp => ?_)
      by_cases w : x = l
      · rw [w] at hp; exact absurd hp z
      · exact hB x (by omega) hp
theorem AIp_path (hX : KX T N lq f0) (hl0 : l0 < N) (hi : ∀ a b, a < N → b < N → lq a = lq b → a = b) {pr : Nat} {p : Nat → Int} (hA : AIp T N lq l0 g d pr p) : ∀ n q c l, pth (aE T) n (lq l0) q c → c ≤ pr → l < N → lq l = q → p l ≤ c
  | 0, q, c, l, h, hc, hl, hq => by
    have : l = l0 := hi l l0 hl hl0 (by rw [hq]; exact h.1)
    rw [this, hA.2.2.1]; omega
  | n + 1, q, c, l, h, hc, hl, hq => by
    obtain ⟨q1, c1, w, h1, ⟨i, j, h2, h3, h4⟩, h5⟩ := h
    have hw := hnd_pos hX.1.1 h2.2.1 h2.2.2.1 h2.1
    obtain ⟨l1, e1, e2⟩ := pth_in (sv := 0) hX n _ _ _ ⟨l0, hl0, rfl⟩ (pth_all n _ _ _ h1)
    have ih := AIp_path hX hl0 hi hA n q1 c1 l1 h1 (by omega) e1 e2
    rw [← e2] at h2 h3
    have := (hA.2.2.2 l1 e1 (by omega)).1 i j l h2 hl (by rw [hq, h3])
    omega
theorem AIp_far (hX : KX T N lq f0) (hl0 : l0 < N) (hi : ∀ a b, a < N → b < N → lq a = lq b → a = b) {pr : Nat} {p : Nat → Int} (hA : AIp T N lq l0 g d pr p) : ∀ n q c, pth (aE T) n (lq l0) q c → dgf q g = d → pr ≤ c := fun n q c h hd => by
  refine Classical.byContradiction fun z => ?_
  obtain ⟨l1, e1, e2⟩ := pth_in (sv := 0) hX n _ _ _ ⟨l0, hl0, rfl⟩ (pth_all n _ _ _ h)
  have := AIp_path hX hl0 hi hA n q c l1 h (by omega) e1 e2
  exact (hA.2.2.2 l1 e1 (by omega)).2 (by rw [e2]; exact hd)
theorem lpP_sp (hX : KX T N lq f0) (hl0 : l0 < N) (hi : ∀ a b, a < N → b < N → lq a = lq b → a = b) (hm : MFo T N lq mf) : ∀ c pr (p : Nat → Int), pr + c < 1000000 → AIp T N lq l0 g d pr p → ∃ r : Nat, lpP T mf lq N g d c pr p = (r : Int) ∧ r ≤ pr + c ∧ (r = pr + c ∨ ∃ n q, pth (aE T) n (lq l0) q r ∧ dgf q g = d) ∧ ∀ n q k, pth (aE T) n (lq l0) q k → dgf q g = d → r ≤ k
  | 0, pr, p, hc, hA => ⟨pr, rfl, Nat.le_refl _, Or.inl rfl, AIp_far hX hl0 hi hA⟩
  | c + 1, pr, p, hc, hA => by
    obtain ⟨h1, h2⟩ := lpL_sp (g := g) (d := d) (l0 := l0) hX hi hm (pr := pr) (by omega) N 0 p (by omega) hA (fun x hx => by omega)
    unfold lpP
    rcases hs : lpL T mf lq g d pr N 0 p with _ | p'
    · obtain ⟨p', x, a1, a2, a3, a4⟩ := h2 hs
      obtain ⟨n, k, b1, b2⟩ := a1.2.1 x a2 (by omega)
      have : k = pr := by omega
      subst this
      exact ⟨k, rfl, by omega, Or.inr ⟨n, lq x, b1, a4⟩, AIp_far hX hl0 hi a1⟩
    · obtain ⟨r, r1, r2, r3, r4⟩ := lpP_sp hX hl0 hi hm c (pr + 1) p' (by omega) (h1 p' hs)
      refine ⟨r, r1, by omega, ?_, r4⟩
      rcases r3 with r3 | r3
      · left; omega
      · exact Or.inr r3
end BUCK2
def prT (S : AS) (i d r : Int) : Prop := (isG S i ∧ isD S d → prS (sT S) (sSv S) (enc (sNow S).1) i.toNat d.toNat r) ∧ (¬ (isG S i ∧ isD S d) → r = -1)
theorem prT_u {S : AS} {i d r r' : Int} (h : prT S i d r) (h' : prT S i d r') : r = r' := by
  by_cases z : isG S i ∧ isD S d
  · exact prS_u (h.1 z) (h'.1 z)
  · rw [h.2 z, h'.2 z]
theorem price_ok {c : Nat} {S : AS} {i d r : Int} (hS : SOK c S) (hex : ∃ N lq, lkR S N lq) (h : priceR S i d r) : prT S i d r := by
  obtain ⟨s1, ⟨s2, s3, s4, s5, s6, s7, s8⟩, ⟨s9, s10, s11, s12⟩, s13, s14, -⟩ := id hS
  obtain ⟨m1, m2, m3, m4⟩ := id s14
  refine ⟨fun z => ?_, h.2⟩
  obtain ⟨⟨z1, z2⟩, ⟨z3, z4⟩⟩ := id z
  obtain ⟨g, rfl⟩ : ∃ g : Nat, i = (g : Int) := ⟨i.toNat, by omega⟩
  obtain ⟨e, rfl⟩ : ∃ e : Nat, d = (e : Int) := ⟨d.toNat, by omega⟩
  rw [Int.toNat_natCast, Int.toNat_natCast]
  rcases h.1 z with ⟨h1, h2⟩ | ⟨h1, N, lq, mf, l0, hLk, hm, hl0, hq, h2⟩
  · left
    refine ⟨h2, fun n q c hp hd => ?_⟩
    obtain ⟨N, lq, hLk⟩ := hex
    obtain ⟨l0, hl0, hq⟩ := lk_at (c := c) hLk m1.lo m2
    have hX := lk_KX hS hLk (T' := sT S) rfl
    rw [← hq] at hp
    obtain ⟨l, l1, l2⟩ := pth_in hX n _ _ _ ⟨l0, hl0, rfl⟩ hp
    have hA := (hX.2.1.1 l l1).2
    rw [l2] at hA
    have a1 := (cnt_pos (f := dgf q) (d := e) (tn (sT S))).mpr ⟨g, by omega, hd⟩
    rw [hA.2, ← m2.2] at a1
    obtain ⟨x, x1, x2⟩ := (cnt_pos (tn (sT S))).mp a1
    exact (sFrom_neg (f := (sNow S).1) (d := e) 6 0).mp h1 x (by omega) (by omega) x2
  · rw [Int.toNat_natCast, Int.toNat_natCast] at h2
    have hX := lk_KX hS hLk (T' := sT S) rfl
    have hat : ∀ x, x < 6 → dgf (lq l0) x = (sNow S).1 x := fun x hx => by rw [hq]; exact dgf_enc m1.lo hx
    right
    unfold lpR at h2
    by_cases y : dgf (lq l0) g = e
    · rw [if_pos y] at h2
      refine ⟨0, lq l0, 0, ⟨by rw [hq], rfl⟩, y, h2, fun _ _ _ _ _ => Nat.zero_le _⟩
    · rw [if_neg y] at h2
      have hA0 : AIp (sT S) N lq l0 g e 0 (p0F l0) := by
        refine ⟨p0F_ok l0, fun l hl hp => ?_, by unfold p0F; rw [if_pos rfl], fun l hl hp => by have := (p0F_ok l0 l).1; omega⟩
        unfold p0F at hp ⊢
        by_cases w : l = l0
        · rw [w, if_pos rfl]
          exact ⟨0, 0, ⟨rfl, rfl⟩, rfl⟩
        · rw [if_neg w] at hp; omega
      obtain ⟨k, k1, k2, k3, k4⟩ := lpP_sp (mf := mf) hX hl0 hLk.2.2 hm (sSv S) 0 (p0F l0) (by omega) hA0
      have h2' : r = (k : Int) := by rw [h2]; exact k1
      have hmin : ∀ n' q' c', pth (pE (sT S) (sSv S)) n' (enc (sNow S).1) q' c' → dgf q' g = e → k ≤ c' := fun n' q' c' hp hd => by
        rw [← hq] at hp
        rcases pth_ask n' _ _ _ hp with a | a
        · exact k4 n' q' c' a hd
        · omega
      rcases k3 with k3 | ⟨n, q, k5, k6⟩
      · obtain ⟨s, hs1, hs2⟩ : ∃ s, s < 6 ∧ (sNow S).1 s = e := Classical.byContradiction fun w => h1 ((sFrom_neg (f := (sNow S).1) (d := e) 6 0).mpr (fun s _ hs hse => w ⟨s, by omega, hse⟩))
        have hsn : s < tn (sT S) := by
          refine Classical.byContradiction fun w => ?_
          have := m2.1 s (by omega) hs1
          omega
        have hsg : s ≠ g := fun w => y (by rw [hat g (by omega), ← w]; exact hs2)
        have hsv : k = sSv S := by omega
        have hone : ∀ a b, a < b → b < tn (sT S) → dgf (enc (sw (dgf (lq l0)) a b)) g = e → ∃ n q c, pth (pE (sT S) (sSv S)) n (enc (sNow S).1) q c ∧ dgf q g = e ∧ r = ((c : Nat) : Int) ∧ ∀ n' q' c', pth (pE (sT S) (sSv S)) n' (enc (sNow S).1) q' c' → dgf q' g = e → c ≤ c' := fun a b h1 h2 h3 =>
          ⟨1, enc (sw (dgf (lq l0)) a b), k, ⟨lq l0, 0, sSv S, ⟨by rw [hq], rfl⟩, Or.inr ⟨⟨a, b, h1, h2, rfl⟩, rfl⟩, by omega⟩, h3, h2', hmin⟩
        rcases Nat.lt_or_ge s g with w | w
        · refine hone s g w (by omega) ?_
          rw [dgf_enc (sw_lo (dgf_lo _)) (by omega), sw_at (by omega), if_neg (by omega), if_pos rfl, hat s hs1]; exact hs2
        · refine hone g s (by omega) hsn ?_
          rw [dgf_enc (sw_lo (dgf_lo _)) (by omega), sw_at (by omega), if_pos rfl, hat s hs1]; exact hs2
      · refine ⟨n, q, k, ?_, k6, h2', hmin⟩
        rw [← hq]; exact pth_all n _ _ _ k5
