/-! the reference: seats -/
theorem bAn_new {T : TB} {e : BE} : ∀ c a (bl : List BE) (k : Nat) (y : BE), (bAn T e c a bl)[k]? = some y → bl.length ≤ k → y.2.1 = e.2.1 + 1
  | 0, a, bl, k, y, h, hk => by
    have := (List.getElem?_eq_some_iff.mp h).1
    simp only [bAn] at this
    omega
  | c + 1, a, bl, k, y, h, hk => by
    by_cases q : (bnx T e (a / tn T) (a % tn T) bl).length ≤ k
    · exact bAn_new c (a + 1) _ k y h q
    · have hx : (bnx T e (a / tn T) (a % tn T) bl)[k]? = some ((bnx T e (a / tn T) (a % tn T) bl)[k]'(by omega)) := List.getElem?_eq_getElem (by omega)
      have hb : ∀ c a (b2 : List BE) (z : BE), b2[k]? = some z → (bAn T e c a b2)[k]? = some z := by
        intro c
        induction c with
        | zero => intro a b2 z hz; exact hz
        | succ c ih => intro a b2 z hz; exact ih (a + 1) _ z (bnx_mem hz)
      have hy := hb c (a + 1) _ _ hx
      have h' : (bAn T e c (a + 1) (bnx T e (a / tn T) (a % tn T) bl))[k]? = some y := h
      rw [h'] at hy
      rw [← Option.some.inj hy] at hx
      by_cases z : can T (dgf e.1) (a / tn T) (a % tn T) ∧ ∀ x ∈ bl, x.1 ≠ enc (aft T (dgf e.1) (a / tn T) (a % tn T))
      · rw [bnx_1 z.1 z.2] at hx
        rcases get_app hx with ⟨z1, -⟩ | ⟨-, z2⟩
        · omega
        · rw [z2]
      · rw [bnx_0 z] at hx
        have := (List.getElem?_eq_some_iff.mp hx).1
        omega
theorem bXn_new {T : TB} : ∀ m (s : List BE × Nat) (k : Nat) (y : BE), (bXn T m s).1[k]? = some y → s.1.length ≤ k → ∃ (o : Nat) (e : BE), s.2 ≤ o ∧ (bXn T m s).1[o]? = some e ∧ y.2.1 = e.2.1 + 1
  | 0, s, k, y, h, hk => by
    have h' : s.1[k]? = some y := h
    have := (List.getElem?_eq_some_iff.mp h').1
    omega
  | m + 1, s, k, y, h, hk => by
    have h' : (bXn T m (bX T s)).1[k]? = some y := h
    by_cases q : (bX T s).1.length ≤ k
    · obtain ⟨o, e, h1, h2, h3⟩ := bXn_new m (bX T s) k y h' q
      refine ⟨o, e, ?_, h2, h3⟩
      have : s.2 ≤ (bX T s).2 := by
        unfold bX
        split
        · exact Nat.le_refl _
        · exact Nat.le_succ _
      omega
    · have hx : (bX T s).1[k]? = some ((bX T s).1[k]'(by omega)) := List.getElem?_eq_getElem (by omega)
      have hy := bXn_mem (T := T) m (bX T s) hx
      rw [h'] at hy
      rw [← Option.some.inj hy] at hx
      rcases hs : s.1[s.2]? with _ | e
      · rw [show bX T s = s by unfold bX; rw [hs]] at q
        omega
      · have hb : bX T s = (bI T e (tn T) 0 s.1, s.2 + 1) := by unfold bX; rw [hs]
        rw [hb] at hx
        have hx' : (bI T e (tn T) 0 s.1)[k]? = some y := hx
        rw [bI_A] at hx'
        refine ⟨s.2, e, Nat.le_refl _, ?_, bAn_new _ _ _ k y hx' hk⟩
        exact bXn_mem (T := T) (m + 1) s hs
theorem isRS_ok {T : TB} {N l0 : Nat} {W lq f0 : Nat → Nat} {lim r : Int} (hX : KX T N lq f0) (h : l0 < N) (hr : isRS T W (lq l0) lim r) : (r = -4 ∧ (rsF T W (lq l0) = -4 ∨ lim ≤ rsF T W (lq l0))) ∨ (r = rsF T W (lq l0) ∧ 0 ≤ r ∧ r < lim) := by
  obtain ⟨m, hr⟩ := hr
  rcases hr with ⟨k, e, e1, e2, e3⟩ | ⟨e1, k, e2⟩
  · right
    have hf := FB_fst hX.1 h e3
    have : rsF T W (lq l0) = (e.2.1 : Int) := by unfold rsF; rw [fstN_1 hf]
    rw [this, e1]
    exact ⟨rfl, by omega, e2⟩
  · left
    refine ⟨e1, ?_⟩
    by_cases hx : ∃ x ∈ FB T (lq l0), atR T W (dgf x.1)
    · right
      obtain ⟨x, hx1, hx2⟩ := hx
      obtain ⟨k0, f, hf⟩ := FST_ex (Pd := fun x => atR T W (dgf x.1)) (FB T (lq l0)) x hx1 hx2
      have hrs : rsF T W (lq l0) = (f.2.1 : Int) := by unfold rsF; rw [fstN_1 hf]
      rw [hrs]
      obtain ⟨a1, a2, a3, a4, a5⟩ := FB_iv hX h
      have hk0 := (List.getElem?_eq_some_iff.mp hf.1).1
      obtain ⟨e3, e4⟩ := e2
      have hkk : k ≤ k0 := by
        refine Classical.byContradiction fun z => ?_
        obtain ⟨y, y1, y2⟩ := e3 k0 (by omega)
        have := FB_pre hX.1 h y1
        rw [hf.1] at this
        cases this
        exact y2 hf.2.1
      rcases e4 with e4 | ⟨e4, e5⟩
      · omega
      · by_cases hkl : k < (bXn T m (st0 (lq l0))).1.length
        · have hy := List.getElem?_eq_getElem hkl
          have h1 := e5 _ hy
          have h2 := FB_pre hX.1 h hy
          have h3 := (a3 k k0 _ f hkk h2 hf.1).1
          omega
        · rcases Nat.lt_or_ge (bXn T m (st0 (lq l0))).2 (bXn T m (st0 (lq l0))).1.length with z | z
          · have hy := List.getElem?_eq_getElem z
            have h1 : lim - 1 ≤ ((((bXn T m (st0 (lq l0))).1[(bXn T m (st0 (lq l0))).2]'z).2.1 : Nat) : Int) := by
              refine Classical.byContradiction fun y => e4 ⟨z, by omega, _, hy, by omega⟩
            rcases Nat.le_total m 720 with q | q
            · have hadd := bXn_add (T := T) m (720 - m) (st0 (lq l0))
              rw [show m + (720 - m) = 720 by omega] at hadd
              have hf1 : (bXn T (720 - m) (bXn T m (st0 (lq l0)))).1[k0]? = some f := by rw [hadd]; exact hf.1
              obtain ⟨o, e, o1, o2, o3⟩ := bXn_new (720 - m) (bXn T m (st0 (lq l0))) k0 f hf1 (by omega)
              rw [hadd] at o2
              have h2 := FB_pre hX.1 h hy
              have h3 := (a3 _ o _ e o1 h2 o2).1
              omega
            · have hadd := bXn_add (T := T) 720 (m - 720) (st0 (lq l0))
              rw [show 720 + (m - 720) = m by omega, bXn_done (FB_done hX.1 h).1] at hadd
              have : (FB T (lq l0)).length = (bXn T m (st0 (lq l0))).1.length := by unfold FB; rw [hadd]
              omega
          · have := FB_end hX.1 h z
            rw [this] at hk0
            omega
    · left
      unfold rsF
      rw [fstN_0 (fun x hx1 hx2 => hx ⟨x, hx1, hx2⟩)]
theorem rsF_r {T : TB} {N l0 : Nat} {W lq f0 : Nat → Nat} (hX : KX T N lq f0) (h : l0 < N) : rsF T W (lq l0) = -4 ∨ (0 ≤ rsF T W (lq l0) ∧ rsF T W (lq l0) ≤ 100000) := by
  obtain ⟨L, hLe, hFd, hFm, hFs, hFh, hFl, hFf, hFg⟩ := FB_all hX h
  rw [← rs_mn (W := W) hLe hFs]
  exact mnL_r hFf _
noncomputable def sfS (T : TB) (W : Nat → Nat) (q : Nat) (p : Nat × Nat) (s : Int × Int) : Int × Int := if rsF (seatT T p.1 p.2) (sw W p.1 p.2) q ≠ -4 ∧ (s.1 = -4 ∨ rsF (seatT T p.1 p.2) (sw W p.1 p.2) q < s.1) then (rsF (seatT T p.1 p.2) (sw W p.1 p.2) q, 10 * (p.1 : Int) + p.2) else s
noncomputable def sfL (T : TB) (W : Nat → Nat) (q : Nat) : List (Nat × Nat) → Int × Int → Int × Int
  | [], s => s
  | p :: ps, s => sfL T W q ps (sfS T W q p s)
noncomputable def seatsS (S : AS) : Int := (sfL (sT S) (sW S) (enc (sNow S).1) (prI (tn (sT S)) (tn (sT S)) 0) (rsF (sT S) (sW S) (enc (sNow S).1), -4)).2
theorem seats_go {T : TB} {N l0 : Nat} {W lq f0 : Nat → Nat} (hXs : ∀ i j, KX (seatT T i j) N lq f0) (h : l0 < N) : ∀ (ps : List (Nat × Nat)) (s s' u : Int × Int), bsR T W (lq l0) ps s s' → ((s.1 = u.1 ∧ 0 ≤ s.1) ∨ (s.1 = 1000000 ∧ u.1 = -4)) → s.2 = u.2 → s'.2 = (sfL T W (lq l0) ps u).2
  | [], s, s', u, hb, _, h2 => by
    have : s' = s := hb
    rw [this, h2]; rfl
  | p :: ps, s, s', u, hb, h1, h2 => by
    have hr := rsF_r (W := sw W p.1 p.2) (hXs p.1 p.2) h
    show s'.2 = (sfL T W (lq l0) ps (sfS T W (lq l0) p u)).2
    unfold bsR at hb
    unfold sfS
    by_cases hp : 0 < s.1
    · rw [if_pos hp] at hb
      obtain ⟨r, r1, r2⟩ := hb
      rcases isRS_ok (hXs p.1 p.2) h r1 with ⟨e1, e2⟩ | ⟨e1, e2, e3⟩
      · rw [if_pos e1] at r2
        rw [if_neg (fun z => by rcases z with ⟨z1, z2⟩; rcases e2 with y | y <;> rcases h1 with ⟨x, x'⟩ | ⟨x, x'⟩ <;> omega)]
        exact seats_go hXs h ps s s' u r2 h1 h2
      · rw [if_neg (by omega)] at r2
        rw [if_pos ⟨by omega, by rcases h1 with ⟨x, x'⟩ | ⟨x, x'⟩ <;> omega⟩]
        refine seats_go hXs h ps _ s' _ r2 (Or.inl ⟨e1, e2⟩) rfl
    · rw [if_neg hp] at hb
      rw [if_neg (fun z => by rcases z with ⟨z1, z2⟩; rcases h1 with ⟨x, x'⟩ | ⟨x, x'⟩ <;> omega)]
      exact seats_go hXs h ps s s' u hb h1 h2
theorem bsR_neg {T : TB} {W : Nat → Nat} {q : Nat} : ∀ (ps : List (Nat × Nat)) (s s' : Int × Int), ¬ 0 < s.1 → bsR T W q ps s s' → s' = s
  | [], s, s', _, hb => hb
  | p :: ps, s, s', hn, hb => by
    unfold bsR at hb
    rw [if_neg hn] at hb
    exact bsR_neg ps s s' hn hb
theorem sfL_no {T : TB} {W : Nat → Nat} {q : Nat} : ∀ (ps : List (Nat × Nat)) (s : Int × Int), (∀ p ∈ ps, rsF (seatT T p.1 p.2) (sw W p.1 p.2) q = -4) → sfL T W q ps s = s
  | [], s, _ => rfl
  | p :: ps, s, h => by
    show sfL T W q ps (sfS T W q p s) = s
    unfold sfS
    rw [if_neg (fun z => z.1 (h p List.mem_cons_self))]
    exact sfL_no ps s (fun p hp => h p (List.mem_cons_of_mem _ hp))
theorem atR_sw {T : TB} {W f : Nat → Nat} {i j : Nat} (hi : i < tn T) (hj : j < tn T) (h : atR (seatT T i j) (sw W i j) f) : atR T W (sw f i j) := by
  intro g hg
  have hg' : ∀ x, x < tn T → (sw W i j) x = 0 ∨ ((sw W i j) x).testBit (f x) = true := h
  unfold sw ud at hg' ⊢
  by_cases z : g = j
  · have := hg' i hi
    by_cases y : i = j
    · rw [if_pos y] at this; rw [if_pos z, z, ← y]; exact this
    · rw [if_neg y, if_pos rfl] at this
      rw [if_pos z, z]; exact this
  · rw [if_neg z]
    by_cases y : g = i
    · have := hg' j hj
      rw [if_pos rfl] at this
      rw [if_pos y, y]; exact this
    · have := hg' g hg
      rw [if_neg z, if_neg y] at this
      rw [if_neg y]; exact this
theorem prJ_mem {i : Nat} : ∀ c j (p : Nat × Nat), p ∈ prJ i c j → p.1 = i ∧ j ≤ p.2 ∧ p.2 < j + c
  | 0, _, p, h => by cases h
  | c + 1, j, p, h => by
    rcases List.mem_cons.mp h with h | h
    · rw [h]; exact ⟨rfl, Nat.le_refl _, by show j < j + (c + 1); omega⟩
    · have := prJ_mem c (j + 1) p h
      exact ⟨this.1, by omega, by omega⟩
theorem prI_mem {n : Nat} : ∀ c i (p : Nat × Nat), i + c ≤ n → p ∈ prI n c i → p.1 < n ∧ p.2 < n ∧ p.1 < p.2
  | 0, _, p, _, h => by cases h
  | c + 1, i, p, hc, h => by
    rcases List.mem_append.mp h with h | h
    · have := prJ_mem _ _ p h
      omega
    · exact prI_mem c (i + 1) p (by omega) h
theorem prI_len : ∀ n, n < 7 → (prI n n 0).length ≤ 15 := by decide
theorem prJ_len {i : Nat} : ∀ c j, (prJ i c j).length = c
  | 0, _ => rfl
  | c + 1, j => by show (prJ i c (j + 1)).length + 1 = c + 1; rw [prJ_len c (j + 1)]
theorem seatR_ok {c : Nat} {S : AS} {r : Int} (hS : SOK c S) (h : seatR S r) : r = seatsS S := by
  obtain ⟨s1, ⟨s2, s3, s4, s5, s6, s7, s8⟩, ⟨s9, s10, s11, s12⟩, s13, s14, -⟩ := id hS
  obtain ⟨m1, m2, m3, m4⟩ := id s14
  obtain ⟨N, lq, hLk, r0, least, h1, h2⟩ := h
  obtain ⟨l0, hl0, hq⟩ := lk_at (c := c) hLk m1.lo m2
  have hX := lk_KX hS hLk (T' := sT S) rfl
  have hXs : ∀ i j, KX (seatT (sT S) i j) N lq (sF0 S) := fun i j => lk_KX hS hLk (T' := seatT (sT S) i j) rfl
  rw [← hq] at h1 h2
  have hrr := rsF_r (W := sW S) hX hl0
  have hr0 : r0 = rsF (sT S) (sW S) (lq l0) := by
    rcases isRS_ok hX hl0 h1 with ⟨e1, e2⟩ | ⟨e1, -⟩
    · rw [e1]; omega
    · exact e1
  unfold seatsS
  rw [← hq, ← hr0]
  rw [← hr0] at hrr
  by_cases hc : r0 = -4 ∧ crI (sT S) (sW S) N lq = 1
  · rw [if_pos hc] at h2
    exact seats_go hXs hl0 _ _ _ _ h2 (Or.inr ⟨rfl, hc.1⟩) rfl
  · rw [if_neg hc] at h2
    rcases hrr with hrr | hrr
    · have := bsR_neg _ _ _ (by dsimp only; omega) h2
      have e2 : r = -4 := congrArg Prod.snd this
      have hno : ¬ ∃ l, l < N ∧ atR (sT S) (sW S) (dgf (lq l)) := fun z => hc ⟨hrr, crI_1 z⟩
      rw [sfL_no _ _ (fun p hp => ?_)]
      · exact e2
      · obtain ⟨p1, p2, p3⟩ := prI_mem (tn (sT S)) 0 p (by omega) hp
        unfold rsF
        rw [fstN_0 (fun x hx hxa => ?_)]
        obtain ⟨-, a2, -⟩ := FB_iv (hXs p.1 p.2) hl0
        obtain ⟨l, l1, l2⟩ := a2 x hx
        rw [← l2] at hxa
        have ha := atR_sw p1 p2 hxa
        obtain ⟨l', l1', l2'⟩ := hLk.1.2 (sw (dgf (lq l)) p.1 p.2) (sw_lo (dgf_lo _)) (AR_sw (hLk.1.1 l l1).2 p1 p2)
        refine hno ⟨l', l1', fun g hg => ?_⟩
        rw [l2', dgf_enc (sw_lo (dgf_lo _)) (by omega)]
        exact ha g hg
    · exact seats_go hXs hl0 _ _ _ _ h2 (Or.inl ⟨rfl, hrr.1⟩) rfl
def swQ2 (M : Mem) (P : PMem) (T : TB) (W : Nat → Nat) : Mem → PMem → Prop := fun M' P' => P = P' ∧ SkR M' T W ∧ ∀ a, ¬ (64 ≤ a ∧ a ≤ 66) → ∀ b, M' a b = M a b
theorem sw_at {f : Nat → Nat} {i j g : Nat} (hij : i ≠ j) : sw f i j g = if g = i then f j else if g = j then f i else f g := by
  unfold sw ud
  by_cases z : g = j
  · rw [if_pos z, if_neg (by omega), if_pos z]
  · rw [if_neg z]
    by_cases y : g = i
    · rw [if_pos y, if_pos y]
    · rw [if_neg y, if_neg y, if_neg z]
set_option maxHeartbeats 4000000 in
set_option maxRecDepth 100000 in
theorem c_X10_swapSits {l : Launch} {T : TB} {W : Nat → Nat} {i j : Nat} {M : Mem} {P : PMem} (hGr : GrM P) (hk : SkR M T W) (hi : i < tn T) (hj : j < tn T) (hij : i ≠ j)  : CtV l yX10_swapSits cX10_swapSits 7 none 0 0 77 [vR 45, vI i, vI j] M P (swQ2 M P (seatT T i j) (sw W i j)) := by
  refine Ct_of (own := RX10) (L := [vR 45, vI i, vI j, vX 1, vX 1, vX 1, vX 1]) (by decide) rfl rfl (Nat.le_of_ble_eq_true rfl) (fun X Y hl hC hQ => ?_)
  obtain ⟨⟨k0, k2⟩, ⟨o2, o6, or1, oT⟩, kg⟩ := id hk
  obtain ⟨z1, z2, z3⟩ := kg i hi
  obtain ⟨y1, y2, y3⟩ := kg j hj
  have hlp : ∀ (c d : Nat) (dv : Int) (x6 : AV) (M1 : Mem), d + c = 6 → dv = (d : Int) → (∀ d', d' < d → M1 66 (6 * i + d') = (tw T j d' : Int) ∧ M1 66 (6 * j + d') = (tw T i d' : Int)) → (∀ g d', g < tn T → d' < 6 → (g ≠ i ∧ g ≠ j) ∨ d ≤ d' → M1 66 (6 * g + d') = (tw T g d' : Int)) → (∀ g, g < tn T → M1 64 g = (sw (tk T) i j g : Int) ∧ M1 65 g = (sw W i j g : Int)) → (∀ a, ¬ (64 ≤ a ∧ a ≤ 66) → ∀ b, M1 a b = M a b) → G X Y 57 [vR 45, vI i, vI j, vI (tk T i), vI (W i), vI dv, x6] [] M1 P := by
    intro c
    induction c with
    | zero =>
      intro d dv x6 M1 hdc e1 hA hB hD hE
      subst e1
      have hd6 : d = 6 := by omega
      subst hd6
      have hfin : SkR M1 (seatT T i j) (sw W i j) := by
        refine ⟨⟨by rw [hE 45 (by omega)]; exact k0, by rw [hE 45 (by omega)]; exact k2⟩, ⟨o2, o6, or1, fun g hg => ⟨?_, fun d hd => ?_⟩⟩, fun g hg => ⟨(hD g hg).1, (hD g hg).2, fun d hd => ?_⟩⟩
        · show sw (tk T) i j g ≤ 3
          rw [sw_at hij]
          split
          · exact (oT j hj).1
          · split
            · exact (oT i hi).1
            · exact (oT g hg).1
        · show tw T (if g = i then j else if g = j then i else g) d ≤ 9
          split
          · exact (oT j hj).2 d hd
          · split
            · exact (oT i hi).2 d hd
            · exact (oT g hg).2 d hd
        · show M1 66 (6 * g + d) = ((tw T (if g = i then j else if g = j then i else g) d : Nat) : Int)
          by_cases q : g = i
          · rw [if_pos q, q]; exact (hA d hd).1
          · rw [if_neg q]
            by_cases q2 : g = j
            · rw [if_pos q2, q2]; exact (hA d hd).2
            · rw [if_neg q2]; exact hB g d hg hd (Or.inl ⟨q, q2⟩)
      refine G_il5 hC dX10_swapSits_57 ?_
      refine G_bipush hC dX10_swapSits_59 (by decide) ?_
      refine G_icmp_ge (tgt := 122) hC dX10_swapSits_61 (by decide) (by omega) (by omega) (fun c61 => ?_) (fun c61 => ?_)
      · exact G_vret hC hQ dX10_swapSits_122 ⟨rfl, rfl, hfin, hE⟩
      · exact absurd c61 (by omega)
    | succ c ih =>
      intro d dv x6 M1 hdc e1 hA hB hD hE
      subst e1
      have q1 : M1 66 (6 * i + d) = (tw T i d : Int) := hB i d hi (by omega) (Or.inr (Nat.le_refl _))
      have q2 : M1 66 (6 * j + d) = (tw T j d : Int) := hB j d hj (by omega) (Or.inr (Nat.le_refl _))
      refine G_il5 hC dX10_swapSits_57 ?_
      refine G_bipush hC dX10_swapSits_59 (by decide) ?_
      refine G_icmp_ge (tgt := 122) hC dX10_swapSits_61 (by decide) (by omega) (by omega) (fun c61 => ?_) (fun c61 => ?_)
      · exact absurd c61 (by omega)
      · refine G_al0 hC dX10_swapSits_64 ?_
        refine G_getR hC fl_X10_70 (by first | assumption | rfl) (by omega) (by first | assumption | exact hGr _ _ rfl) dX10_swapSits_65 ?_
        refine G_bipush hC dX10_swapSits_68 (by decide) ?_
        refine G_il1 hC dX10_swapSits_70 ?_
        refine G_imul hC dX10_swapSits_71 ?_
        refine G_il5 hC dX10_swapSits_72 ?_
        refine G_iadd hC dX10_swapSits_74 ?_
        refine G_ialoadN (n := 6 * i + d) hC (by first | assumption | rfl) (by omega) (by omega) (by omega) dX10_swapSits_75 ?_
        rw [q1]
        refine G_is6 hC dX10_swapSits_76 rfl ?_
        refine G_al0 hC dX10_swapSits_78 ?_
        refine G_getR hC fl_X10_70 (by first | assumption | rfl) (by omega) (by first | assumption | exact hGr _ _ rfl) dX10_swapSits_79 ?_
        refine G_bipush hC dX10_swapSits_82 (by decide) ?_
        refine G_il1 hC dX10_swapSits_84 ?_
        refine G_imul hC dX10_swapSits_85 ?_
        refine G_il5 hC dX10_swapSits_86 ?_
        refine G_iadd hC dX10_swapSits_88 ?_
        refine G_al0 hC dX10_swapSits_89 ?_
        refine G_getR hC fl_X10_70 (by first | assumption | rfl) (by omega) (by first | assumption | exact hGr _ _ rfl) dX10_swapSits_90 ?_
        refine G_bipush hC dX10_swapSits_93 (by decide) ?_
        refine G_il2 hC dX10_swapSits_95 ?_
        refine G_imul hC dX10_swapSits_96 ?_
        refine G_il5 hC dX10_swapSits_97 ?_
        refine G_iadd hC dX10_swapSits_99 ?_
        refine G_ialoadN (n := 6 * j + d) hC (by first | assumption | rfl) (by omega) (by omega) (by omega) dX10_swapSits_100 ?_
        rw [q2]
        refine G_iastoreN (n := 6 * i + d) hC (by first | assumption | rfl) (by omega) (by omega) (by omega) dX10_swapSits_101 ?_
        refine G_al0 hC dX10_swapSits_102 ?_
        refine G_getR hC fl_X10_70 (by first | assumption | rfl) (by omega) (by first | assumption | exact hGr _ _ rfl) dX10_swapSits_103 ?_
        refine G_bipush hC dX10_swapSits_106 (by decide) ?_
        refine G_il2 hC dX10_swapSits_108 ?_
        refine G_imul hC dX10_swapSits_109 ?_
        refine G_il5 hC dX10_swapSits_110 ?_
        refine G_iadd hC dX10_swapSits_112 ?_
        refine G_il6 hC dX10_swapSits_113 ?_
        refine G_iastoreN (n := 6 * j + d) hC (by first | assumption | rfl) (by omega) (by omega) (by omega) dX10_swapSits_115 ?_
        refine G_inc5 hC dX10_swapSits_116 rfl ?_
        refine G_goto (tgt := 57) hC dX10_swapSits_119 (by decide) ?_
        exact ih (d + 1) _ _ _ (by omega) (by omega) (fun d' hd' => by
            by_cases z : d' = d
            · rw [z]; exact ⟨by rw [upM_nej (by omega), upM_self], by rw [upM_self]⟩
            · rw [upM_nej (by omega), upM_nej (by omega), upM_nej (by omega), upM_nej (by omega)]; exact hA d' (by omega)) (fun g d' hg hd' hh => by
            rw [upM_nej (by omega), upM_nej (by omega)]; exact hB g d' hg hd' (by omega)) (fun g hg => by
            rw [upM_ne (by omega), upM_ne (by omega), upM_ne (by omega), upM_ne (by omega)]; exact hD g hg) (fun a ha b => by
            rw [upM_ne (by omega), upM_ne (by omega)]; exact hE a ha b)
  refine G_al0 hC dX10_swapSits_0 ?_
  refine G_getR hC fl_X10_64 (by first | assumption | rfl) (by omega) (by first | assumption | exact hGr _ _ rfl) dX10_swapSits_1 ?_
  refine G_il1 hC dX10_swapSits_4 ?_
  refine G_ialoadN (n := i) hC (by first | assumption | rfl) (by omega) (by omega) (by omega) dX10_swapSits_5 ?_
  rw [z1]
  refine G_is3 hC dX10_swapSits_6 rfl ?_
  refine G_al0 hC dX10_swapSits_7 ?_
  refine G_getR hC fl_X10_64 (by first | assumption | rfl) (by omega) (by first | assumption | exact hGr _ _ rfl) dX10_swapSits_8 ?_
  refine G_il1 hC dX10_swapSits_11 ?_
  refine G_al0 hC dX10_swapSits_12 ?_
  refine G_getR hC fl_X10_64 (by first | assumption | rfl) (by omega) (by first | assumption | exact hGr _ _ rfl) dX10_swapSits_13 ?_
  refine G_il2 hC dX10_swapSits_16 ?_
  refine G_ialoadN (n := j) hC (by first | assumption | rfl) (by omega) (by omega) (by omega) dX10_swapSits_17 ?_
  rw [y1]
  refine G_iastoreN (n := i) hC (by first | assumption | rfl) (by omega) (by omega) (by omega) dX10_swapSits_18 ?_
  refine G_al0 hC dX10_swapSits_19 ?_
  refine G_getR hC fl_X10_64 (by first | assumption | rfl) (by omega) (by first | assumption | exact hGr _ _ rfl) dX10_swapSits_20 ?_
  refine G_il2 hC dX10_swapSits_23 ?_
  refine G_il3 hC dX10_swapSits_24 ?_
  refine G_iastoreN (n := j) hC (by first | assumption | rfl) (by omega) (by omega) (by omega) dX10_swapSits_25 ?_
  refine G_al0 hC dX10_swapSits_26 ?_
  refine G_getR hC fl_X10_67 (by first | assumption | rfl) (by omega) (by first | assumption | exact hGr _ _ rfl) dX10_swapSits_27 ?_
  refine G_il1 hC dX10_swapSits_30 ?_
  refine G_ialoadN (n := i) hC (by first | assumption | rfl) (by omega) (by omega) (by omega) dX10_swapSits_31 ?_
  rw [upM_ne (by omega), upM_ne (by omega), z2]
  refine G_is4 hC dX10_swapSits_32 rfl ?_
  refine G_al0 hC dX10_swapSits_34 ?_
  refine G_getR hC fl_X10_67 (by first | assumption | rfl) (by omega) (by first | assumption | exact hGr _ _ rfl) dX10_swapSits_35 ?_
  refine G_il1 hC dX10_swapSits_38 ?_
  refine G_al0 hC dX10_swapSits_39 ?_
  refine G_getR hC fl_X10_67 (by first | assumption | rfl) (by omega) (by first | assumption | exact hGr _ _ rfl) dX10_swapSits_40 ?_
  refine G_il2 hC dX10_swapSits_43 ?_
  refine G_ialoadN (n := j) hC (by first | assumption | rfl) (by omega) (by omega) (by omega) dX10_swapSits_44 ?_
  rw [upM_ne (by omega), upM_ne (by omega), y2]
  refine G_iastoreN (n := i) hC (by first | assumption | rfl) (by omega) (by omega) (by omega) dX10_swapSits_45 ?_
  refine G_al0 hC dX10_swapSits_46 ?_
  refine G_getR hC fl_X10_67 (by first | assumption | rfl) (by omega) (by first | assumption | exact hGr _ _ rfl) dX10_swapSits_47 ?_
  refine G_il2 hC dX10_swapSits_50 ?_
  refine G_il4 hC dX10_swapSits_51 ?_
  refine G_iastoreN (n := j) hC (by first | assumption | rfl) (by omega) (by omega) (by omega) dX10_swapSits_53 ?_
  refine G_iconst hC dX10_swapSits_54 ?_
  refine G_is5 hC dX10_swapSits_55 rfl ?_
  exact hlp 6 0 _ _ _ (by omega) rfl (fun d' hd' => by omega) (fun g d' hg hd' _ => by
      rw [upM_ne (by omega), upM_ne (by omega), upM_ne (by omega), upM_ne (by omega)]; exact (kg g hg).2.2 d' hd') (fun g hg => by
      rw [sw_at hij, sw_at hij]
      refine ⟨?_, ?_⟩
      · rw [upM_ne (by omega), upM_ne (by omega)]
        by_cases q : g = j
        · rw [q, upM_self, if_neg (by omega), if_pos rfl]
        · rw [upM_nej q]
          by_cases q2 : g = i
          · rw [q2, upM_self, if_pos rfl]
          · rw [upM_nej q2, if_neg q2, if_neg q]; exact (kg g hg).1
      · by_cases q : g = j
        · rw [q, upM_self, if_neg (by omega), if_pos rfl]
        · rw [upM_nej q]
          by_cases q2 : g = i
          · rw [q2, upM_self, if_pos rfl]
          · rw [upM_nej q2, if_neg q2, if_neg q, upM_ne (by omega), upM_ne (by omega)]; exact (kg g hg).2.1) (fun a ha b => by
      rw [upM_ne (by omega), upM_ne (by omega), upM_ne (by omega), upM_ne (by omega)])
set_option maxHeartbeats 4000000 in
set_option maxRecDepth 100000 in
theorem c_X10_seats {l : Launch} {c : Nat} {S : AS} {N : Nat} {lq : Nat → Nat} {M : Mem} {P : PMem} (hS : SOK c S) (hK : TOK S) (hI : MIv c M P S) (hLk : lkR S N lq) (hc5 : c ≤ 520)  : CtI l yX10_seats cX10_seats 6 (some .int) 5 123 77 [vR 45] M P (mR (c + 1) M P S (seatsS S)) := by
  refine Ct_of (own := RX10) (L := [vR 45, vX 1, vX 1, vX 1, vX 1, vX 1]) (by decide) rfl rfl (Nat.le_of_ble_eq_true rfl) (fun X Y hl hC hQ => ?_)
  obtain ⟨hGr, ⟨⟨g0, g1, g2, g3, g4⟩, g5⟩, ⟨g6, g7⟩, g8, g9, ⟨g10, g11⟩, g12⟩ := id hI
  obtain ⟨s1, ⟨s2, s3, s4, s5, s6, s7, s8⟩, ⟨s9, s10, s11, s12⟩, s13, s14, s15, s16, s17, s18⟩ := id hS
  obtain ⟨m1, m2, m3, m4⟩ := id s14
  have hX := lk_KX hS hLk (T' := sT S) rfl
  have hlo := m1.lo
  obtain ⟨l0, hl0, hq⟩ := lk_at (c := c) hLk hlo m2
  obtain ⟨st, hst⟩ : ∃ st : Nat, M 45 37 = (st : Int) := ⟨(M 45 37).toNat, by have := g12.1; omega⟩
  have hstc : st ≤ 16 * c := by have := g12.2.1; omega
  refine G_al0 hC dX10_seats_0 ?_
  refine G_callVV hC (c_X10_sits hGr g0 s7) mv_X10_220 (by first | assumption | rfl) (by omega) (by decide) rfl (by decide) dX10_seats_1 rfl (Nat.le_of_ble_eq_true rfl) rfl (fun M1 P1 h1 => ?_)
  obtain ⟨rfl, v0⟩ := h1
  obtain ⟨v1, v2⟩ := si_R hS hK hI v0
  obtain ⟨v3, v4⟩ := siI_M hI v0
  have v37 : M1 45 37 = (st : Int) := by rw [v0.2.2 45 (by omega)]; exact hst
  refine G_al0 hC dX10_seats_4 ?_
  refine G_callVI hC (c_X10_restOf hGr v1 hX v2 hlo hl0 hq v3.2.2.2.2.2.2 v37 (by omega) (sW_lt hS)) mv_X10_281 (by first | assumption | rfl) (by omega) (by decide) rfl (by decide) dX10_seats_5 rfl (Nat.le_of_ble_eq_true rfl) rfl (fun z5 M5 P5 h5 => ?_)
  skip
  obtain ⟨rfl, rfl, fa1, fa2⟩ := h5
  obtain ⟨w1, w2⟩ := MIv_l (c' := c + 1) v3 fa2 fa1 (by omega)
  have hex : eqx mdX M M5 := v4.trans w2
  have h5s : M5 45 37 = ((st + 1 : Nat) : Int) := fa1.1.2.1
  have hrr := rsF_r (W := sW S) hX hl0
  rw [hq] at hrr
  have hlen := prI_len (tn (sT S)) (by omega)
  have h14 : ∀ (c2 i sv : Nat) (iv lv bv : Int) (x4 x5 : AV) (M2 : Mem), i + c2 = tn (sT S) → iv = (i : Int) → (sfL (sT S) (sW S) (enc (sNow S).1) (prI (tn (sT S)) c2 i) (lv, bv)).2 = seatsS S → (lv = -4 ∨ (0 ≤ lv ∧ lv ≤ 100000)) → MIv (c + 1) M2 P S → M2 45 37 = (sv : Int) → sv + (prI (tn (sT S)) c2 i).length ≤ st + 16 → eqx mdX M M2 → G X Y 14 [vR 45, vI lv, vI bv, vI iv, x4, x5] [] M2 P := by
    intro c2
    induction c2 with
    | zero =>
      intro i sv iv lv bv x4 x5 M2 hic e1 hsf hlr hMI h37 hsv hE
      subst e1
      have hin : i = tn (sT S) := by omega
      have n0 : M2 45 0 = (i : Int) := by rw [hin]; exact hMI.2.1.1.1
      have hres : bv = seatsS S := hsf
      refine G_il3 hC dX10_seats_14 ?_
      refine G_al0 hC dX10_seats_15 ?_
      refine G_getI hC fl_X10_116 (by first | assumption | rfl) (by omega) dX10_seats_16 ?_
      rw [n0]
      refine G_icmp_ge (tgt := 95) hC dX10_seats_19 (by decide) (by omega) (by omega) (fun c19 => ?_) (fun c19 => ?_)
      · refine G_il2 hC dX10_seats_95 ?_
        exact G_iret hC hQ dX10_seats_96 ⟨_, rfl, rfl, hres, hMI, hE⟩
      · exact absurd c19 (by omega)
    | succ c2 ih =>
      intro i sv iv lv bv x4 x5 M2 hic e1 hsf hlr hMI h37 hsv hE
      subst e1
      have hil : i < tn (sT S) := by omega
      have n0 : M2 45 0 = (tn (sT S) : Int) := hMI.2.1.1.1
      have hj27 : ∀ (c3 j sv : Nat) (jv lv bv : Int) (x5 : AV) (M3 : Mem), j + c3 = tn (sT S) → i < j → jv = (j : Int) → (sfL (sT S) (sW S) (enc (sNow S).1) (prJ i c3 j ++ prI (tn (sT S)) c2 (i + 1)) (lv, bv)).2 = seatsS S → (lv = -4 ∨ (0 ≤ lv ∧ lv ≤ 100000)) → MIv (c + 1) M3 P S → M3 45 37 = (sv : Int) → sv + (prJ i c3 j ++ prI (tn (sT S)) c2 (i + 1)).length ≤ st + 16 → eqx mdX M M3 → G X Y 27 [vR 45, vI lv, vI bv, vI i, vI jv, x5] [] M3 P := by
        intro c3
        induction c3 with
        | zero =>
          intro j sv jv lv bv x5 M3 hjc hij f1 hsf hlr hMI h37 hsv hE
          subst f1
          have hjn : j = tn (sT S) := by omega
          have n0 : M3 45 0 = (j : Int) := by rw [hjn]; exact hMI.2.1.1.1
          refine G_il4 hC dX10_seats_27 ?_
          refine G_al0 hC dX10_seats_29 ?_
          refine G_getI hC fl_X10_116 (by first | assumption | rfl) (by omega) dX10_seats_30 ?_
          rw [n0]
          refine G_icmp_ge (tgt := 89) hC dX10_seats_33 (by decide) (by omega) (by omega) (fun c33 => ?_) (fun c33 => ?_)
          · refine G_inc3 hC dX10_seats_89 rfl ?_
            refine G_goto (tgt := 14) hC dX10_seats_92 (by decide) ?_
            exact ih (i + 1) sv _ _ _ _ _ _ (by omega) (by omega) hsf hlr hMI h37 hsv hE
          · exact absurd c33 (by omega)
        | succ c3 ih2 =>
          intro j sv jv lv bv x5 M3 hjc hij f1 hsf hlr hMI h37 hsv hE
          subst f1
          have hjl : j < tn (sT S) := by omega
          have hne : i ≠ j := by omega
          have n0 : M3 45 0 = (tn (sT S) : Int) := hMI.2.1.1.1
          have hXs := lk_KX hS hLk (T' := seatT (sT S) i j) rfl
          have hlen1 : (prJ i (c3 + 1) j ++ prI (tn (sT S)) c2 (i + 1)).length = (prJ i c3 (j + 1) ++ prI (tn (sT S)) c2 (i + 1)).length + 1 := rfl
          have hrj := rsF_r (W := sw (sW S) i j) hXs hl0
          rw [hq] at hrj
          obtain ⟨n, hn⟩ : ∃ v, v = rsF (seatT (sT S) i j) (sw (sW S) i j) (enc (sNow S).1) := ⟨_, rfl⟩
          have hT1 : n ≠ -4 ∧ (lv = -4 ∨ n < lv) → (sfL (sT S) (sW S) (enc (sNow S).1) (prJ i c3 (j + 1) ++ prI (tn (sT S)) c2 (i + 1)) (n, 10 * (i : Int) + j)).2 = seatsS S := fun z => by
            rw [← hsf]
            show _ = (sfL _ _ _ (prJ i c3 (j + 1) ++ prI (tn (sT S)) c2 (i + 1)) (sfS (sT S) (sW S) (enc (sNow S).1) (i, j) (lv, bv))).2
            unfold sfS
            dsimp only
            rw [← hn, if_pos z]
          have hT0 : ¬ (n ≠ -4 ∧ (lv = -4 ∨ n < lv)) → (sfL (sT S) (sW S) (enc (sNow S).1) (prJ i c3 (j + 1) ++ prI (tn (sT S)) c2 (i + 1)) (lv, bv)).2 = seatsS S := fun z => by
            rw [← hsf]
            show _ = (sfL _ _ _ (prJ i c3 (j + 1) ++ prI (tn (sT S)) c2 (i + 1)) (sfS (sT S) (sW S) (enc (sNow S).1) (i, j) (lv, bv))).2
            unfold sfS
            dsimp only
            rw [← hn, if_neg z]
          rw [← hn] at hrj
          have h37s := h37
          have hW2 : ∀ g, g < tn (seatT (sT S) i j) → sw (sW S) i j g < 64 := fun g hg => by
            rw [sw_at hne]
            split
            · exact sW_lt hS j hjl
            · split
              · exact sW_lt hS i hil
              · exact sW_lt hS g hg
          refine G_il4 hC dX10_seats_27 ?_
          refine G_al0 hC dX10_seats_29 ?_
          refine G_getI hC fl_X10_116 (by first | assumption | rfl) (by omega) dX10_seats_30 ?_
          rw [n0]
          refine G_icmp_ge (tgt := 89) hC dX10_seats_33 (by decide) (by omega) (by omega) (fun c33 => ?_) (fun c33 => ?_)
          · exact absurd c33 (by omega)
          · refine G_al0 hC dX10_seats_36 ?_
            refine G_callVV hC (c_X10_sits hGr n0 s7) mv_X10_220 (by first | assumption | rfl) (by omega) (by decide) rfl (by decide) dX10_seats_37 rfl (Nat.le_of_ble_eq_true rfl) rfl (fun M37 P37 h37 => ?_)
            obtain ⟨rfl, r0⟩ := h37
            obtain ⟨r1, r2⟩ := si_R (hS.mono (Nat.le_succ c)) hK hMI r0
            obtain ⟨r3, r4⟩ := siI_M hMI r0
            have r37 : M37 45 37 = (sv : Int) := by rw [r0.2.2 45 (by omega)]; exact h37s
            refine G_al0 hC dX10_seats_40 ?_
            refine G_il3 hC dX10_seats_41 ?_
            refine G_il4 hC dX10_seats_42 ?_
            refine G_callVV hC (c_X10_swapSits hGr r1 hil hjl hne) mv_X10_299 (by first | assumption | rfl) (by omega) (by decide) rfl (by decide) dX10_seats_44 rfl (Nat.le_of_ble_eq_true rfl) rfl (fun M44 P44 h44 => ?_)
            obtain ⟨rfl, t1, t2⟩ := h44
            have t3 : SpR M44 (tn (seatT (sT S) i j)) (sNow S).1 := fun g hg => by rw [t2 63 (by omega)]; exact r2 g hg
            have t4 : qMk (c + 1) M44 := qMk_x r3.2.2.2.2.2.2 (t2 45 (by omega) 37) (t2 67 (by omega))
            have t5 : MIv (c + 1) M44 P S := MIv_x r3 (fun a h1 h2 b => t2 a (by omega) b) (fun b hb => t2 45 (by omega) b) t4
            have t6 : eqx mdX M37 M44 := fun a ha b => t2 a (fun q => ha (by unfold mdX; omega)) b
            have t37 : M44 45 37 = (sv : Int) := by rw [t2 45 (by omega)]; exact r37
            refine G_al0 hC dX10_seats_47 ?_
            refine G_callVI hC (c_X10_restOf hGr t1 hXs t3 hlo hl0 hq t4 t37 (by omega) hW2) mv_X10_281 (by first | assumption | rfl) (by omega) (by decide) rfl (by decide) dX10_seats_48 rfl (Nat.le_of_ble_eq_true rfl) rfl (fun z48 M48 P48 h48 => ?_)
            obtain ⟨rfl, hz48, u1, u2⟩ := h48
            rw [hz48, ← hn]
            obtain ⟨u3, u4⟩ := MIv_l (c' := c + 1) t5 u2 u1 (by omega)
            have u37 : M48 45 37 = ((sv + 1 : Nat) : Int) := u1.1.2.1
            have uex : eqx mdX M M48 := ((hE.trans r4).trans t6).trans u4
            refine G_is5 hC dX10_seats_51 rfl ?_
            refine G_il5 hC dX10_seats_53 ?_
            refine G_bipush hC dX10_seats_55 (by decide) ?_
            refine G_icmp_eq (tgt := 83) hC dX10_seats_57 (by decide) (by omega) (by omega) (fun c57 => ?_) (fun c57 => ?_)
            · refine G_inc4 hC dX10_seats_83 rfl ?_
              refine G_goto (tgt := 27) hC dX10_seats_86 (by decide) ?_
              first
                | exact ih2 (j + 1) (sv + 1) _ _ _ _ _ (by omega) (by omega) (by omega) (hT1 ⟨by omega, by omega⟩) (by omega) u3 u37 (by omega) uex
                | exact ih2 (j + 1) (sv + 1) _ _ _ _ _ (by omega) (by omega) (by omega) (hT0 (by omega)) (by omega) u3 u37 (by omega) uex
            · refine G_il1 hC dX10_seats_60 ?_
              refine G_bipush hC dX10_seats_61 (by decide) ?_
              refine G_icmp_eq (tgt := 72) hC dX10_seats_63 (by decide) (by omega) (by omega) (fun c63 => ?_) (fun c63 => ?_)
              · refine G_il5 hC dX10_seats_72 ?_
                refine G_is1 hC dX10_seats_74 rfl ?_
                refine G_bipush hC dX10_seats_75 (by decide) ?_
                refine G_il3 hC dX10_seats_77 ?_
                refine G_imul hC dX10_seats_78 ?_
                refine G_il4 hC dX10_seats_79 ?_
                refine G_iadd hC dX10_seats_81 ?_
                refine G_is2 hC dX10_seats_82 rfl ?_
                refine G_inc4 hC dX10_seats_83 rfl ?_
                refine G_goto (tgt := 27) hC dX10_seats_86 (by decide) ?_
                first
                  | exact ih2 (j + 1) (sv + 1) _ _ _ _ _ (by omega) (by omega) (by omega) (hT1 ⟨by omega, by omega⟩) (by omega) u3 u37 (by omega) uex
                  | exact ih2 (j + 1) (sv + 1) _ _ _ _ _ (by omega) (by omega) (by omega) (hT0 (by omega)) (by omega) u3 u37 (by omega) uex
              · refine G_il5 hC dX10_seats_66 ?_
                refine G_il1 hC dX10_seats_68 ?_
                refine G_icmp_ge (tgt := 83) hC dX10_seats_69 (by decide) (by omega) (by omega) (fun c69 => ?_) (fun c69 => ?_)
                · refine G_inc4 hC dX10_seats_83 rfl ?_
                  refine G_goto (tgt := 27) hC dX10_seats_86 (by decide) ?_
                  first
                    | exact ih2 (j + 1) (sv + 1) _ _ _ _ _ (by omega) (by omega) (by omega) (hT1 ⟨by omega, by omega⟩) (by omega) u3 u37 (by omega) uex
                    | exact ih2 (j + 1) (sv + 1) _ _ _ _ _ (by omega) (by omega) (by omega) (hT0 (by omega)) (by omega) u3 u37 (by omega) uex
                · refine G_il5 hC dX10_seats_72 ?_
                  refine G_is1 hC dX10_seats_74 rfl ?_
                  refine G_bipush hC dX10_seats_75 (by decide) ?_
                  refine G_il3 hC dX10_seats_77 ?_
                  refine G_imul hC dX10_seats_78 ?_
                  refine G_il4 hC dX10_seats_79 ?_
                  refine G_iadd hC dX10_seats_81 ?_
                  refine G_is2 hC dX10_seats_82 rfl ?_
                  refine G_inc4 hC dX10_seats_83 rfl ?_
                  refine G_goto (tgt := 27) hC dX10_seats_86 (by decide) ?_
                  first
                    | exact ih2 (j + 1) (sv + 1) _ _ _ _ _ (by omega) (by omega) (by omega) (hT1 ⟨by omega, by omega⟩) (by omega) u3 u37 (by omega) uex
                    | exact ih2 (j + 1) (sv + 1) _ _ _ _ _ (by omega) (by omega) (by omega) (hT0 (by omega)) (by omega) u3 u37 (by omega) uex
      refine G_il3 hC dX10_seats_14 ?_
      refine G_al0 hC dX10_seats_15 ?_
      refine G_getI hC fl_X10_116 (by first | assumption | rfl) (by omega) dX10_seats_16 ?_
      rw [n0]
      refine G_icmp_ge (tgt := 95) hC dX10_seats_19 (by decide) (by omega) (by omega) (fun c19 => ?_) (fun c19 => ?_)
      · exact absurd c19 (by omega)
      · refine G_il3 hC dX10_seats_22 ?_
        refine G_iconst hC dX10_seats_23 ?_
        refine G_iadd hC dX10_seats_24 ?_
        refine G_is4 hC dX10_seats_25 rfl ?_
        exact hj27 (tn (sT S) - (i + 1)) (i + 1) sv _ _ _ _ _ (by omega) (by omega) (by omega) hsf hlr hMI h37 hsv hE
  refine G_is1 hC dX10_seats_8 rfl ?_
  refine G_bipush hC dX10_seats_9 (by decide) ?_
  refine G_is2 hC dX10_seats_11 rfl ?_
  refine G_iconst hC dX10_seats_12 ?_
  refine G_is3 hC dX10_seats_13 rfl ?_
  exact h14 (tn (sT S)) 0 (st + 1) _ _ _ _ _ _ (by omega) rfl rfl hrr w1 h5s (by omega) hex
