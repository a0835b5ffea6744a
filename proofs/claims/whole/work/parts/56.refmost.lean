/-! the laying that is worth most -/
def wsm (T : TB) (f : Nat → Nat) : Nat → Nat
  | 0 => 0
  | g + 1 => wsm T f g + wo T g (f g)
theorem wsm_congr {T : TB} {f f' : Nat → Nat} : ∀ n, (∀ i, i < n → f i = f' i) → wsm T f n = wsm T f' n
  | 0, _ => rfl
  | n + 1, h => by unfold wsm; rw [wsm_congr n (fun i hi => h i (by omega)), h n (by omega)]
def asg (T : TB) (nd g s v : Nat) : Prop := ∃ f : Nat → Nat, (∀ i, i < g → f i < nd ∨ f i = 7) ∧ injN g f ∧ thF f g = s ∧ v = wsm T f g
def isB (Q : Nat → Prop) (x : Int) : Prop := (x = -1 ∧ ∀ v, ¬ Q v) ∨ ∃ v, Q v ∧ x = ((v : Nat) : Int) ∧ ∀ v', Q v' → v' ≤ v
theorem isB_u {Q : Nat → Prop} {x y : Int} (h : isB Q x) (h' : isB Q y) : x = y := by
  rcases h with ⟨h1, h2⟩ | ⟨v, h1, h2, h3⟩
  · rcases h' with ⟨g1, g2⟩ | ⟨w, g1, g2, g3⟩
    · omega
    · exact absurd g1 (h2 w)
  · rcases h' with ⟨g1, g2⟩ | ⟨w, g1, g2, g3⟩
    · exact absurd h1 (g2 v)
    · have := h3 w g1
      have := g3 v h1
      omega
theorem isB_congr {Q Q' : Nat → Prop} {x : Int} (h : isB Q x) (e : ∀ v, Q v ↔ Q' v) : isB Q' x := by
  rcases h with ⟨h1, h2⟩ | ⟨v, h1, h2, h3⟩
  · exact Or.inl ⟨h1, fun v hv => h2 v ((e v).mpr hv)⟩
  · exact Or.inr ⟨v, (e v).mp h1, h2, fun w hw => h3 w ((e w).mpr hw)⟩
theorem isB_or {Q R : Nat → Prop} {x y z : Int} (h : isB Q x) (h' : isB R y) (hz : (x < y ∧ z = y) ∨ (y ≤ x ∧ z = x)) : isB (fun v => Q v ∨ R v) z := by
  rcases h with ⟨h1, h2⟩ | ⟨v, h1, h2, h3⟩
  · rcases h' with ⟨g1, g2⟩ | ⟨w, g1, g2, g3⟩
    · exact Or.inl ⟨by omega, fun u hu => by rcases hu with hu | hu; exact h2 u hu; exact g2 u hu⟩
    · exact Or.inr ⟨w, Or.inr g1, by omega, fun u hu => by rcases hu with hu | hu; exact absurd hu (h2 u); exact g3 u hu⟩
  · rcases h' with ⟨g1, g2⟩ | ⟨w, g1, g2, g3⟩
    · exact Or.inr ⟨v, Or.inl h1, by omega, fun u hu => by rcases hu with hu | hu; exact h3 u hu; exact absurd hu (g2 u)⟩
    · rcases hz with ⟨z1, z2⟩ | ⟨z1, z2⟩
      · exact Or.inr ⟨w, Or.inr g1, by omega, fun u hu => by
          rcases hu with hu | hu
          · have := h3 u hu; omega
          · exact g3 u hu⟩
      · exact Or.inr ⟨v, Or.inl h1, by omega, fun u hu => by
          rcases hu with hu | hu
          · exact h3 u hu
          · have := g3 u hu; omega⟩
def lsN (s d : Nat) : Nat := s ^^^ (s &&& 2 ^ d)
theorem ls_tb {s d j : Nat} : (lsN s d).testBit j = (s.testBit j && !decide (d = j)) := by
  unfold lsN
  rw [Nat.testBit_xor, Nat.testBit_and, Nat.testBit_two_pow]
  cases s.testBit j <;> cases decide (d = j) <;> rfl
theorem ls_0 {s d : Nat} (h : ¬ s.testBit d = true) : lsN s d = s := by
  apply Nat.eq_of_testBit_eq
  intro j
  rw [ls_tb]
  by_cases z : d = j
  · rw [z] at h
    have : s.testBit j = false := by cases hh : s.testBit j with
      | true => exact absurd hh h
      | false => rfl
    rw [this]; rfl
  · rw [decide_eq_false z]; simp
theorem ls_1 {s d : Nat} (h : s.testBit d = true) : lsN s d ≠ s := fun e => by
  have := ls_tb (s := s) (d := d) (j := d)
  rw [e, h, decide_eq_true rfl] at this
  cases this
theorem ls_lt {s d n : Nat} (h : s < 2 ^ n) : lsN s d < 2 ^ n := Nat.xor_lt_two_pow h (and_lt h)
theorem ls_or {s d : Nat} (h : s.testBit d = true) : lsN s d ||| 2 ^ d = s := by
  apply Nat.eq_of_testBit_eq
  intro j
  rw [Nat.testBit_or, ls_tb, Nat.testBit_two_pow]
  by_cases z : d = j
  · rw [← z, h, decide_eq_true rfl]; rfl
  · rw [decide_eq_false z]; simp
theorem wo_7 {T : TB} {g : Nat} : wo T g 7 = 0 := by unfold wo; rw [if_neg (by omega)]
theorem asg_s {T : TB} {nd g s v : Nat} (hnd : nd ≤ 6) : asg T nd (g + 1) s v ↔ asg T nd g s v ∨ ∃ d, d < nd ∧ s.testBit d = true ∧ ∃ v', asg T nd g (lsN s d) v' ∧ v = v' + wo T g d := by
  constructor
  · rintro ⟨f, h1, h2, h3, h4⟩
    have h2' : injN g f := fun i j hi hj => h2 i j (by omega) (by omega)
    rcases h1 g (by omega) with q | q
    · right
      have hs : s.testBit (f g) = true := by rw [← h3]; exact (th_tb (by omega) (g + 1)).mpr ⟨g, by omega, rfl⟩
      refine ⟨f g, q, hs, wsm T f g, ⟨f, fun i hi => h1 i (by omega), h2', ?_, rfl⟩, h4⟩
      have h3' : thF f g ||| 2 ^ f g = s := by
        have : thF f (g + 1) = thF f g ||| (if f g = 7 then 0 else 2 ^ f g) := rfl
        rw [if_neg (by omega)] at this
        rw [← this]; exact h3
      have hno : ¬ (thF f g).testBit (f g) = true := fun z => by
        obtain ⟨i, i1, i2⟩ := (th_tb (by omega) g).mp z
        have := h2 i g (by omega) (by omega) (by omega) i2
        omega
      apply Nat.eq_of_testBit_eq
      intro j
      rw [ls_tb, ← h3', Nat.testBit_or, Nat.testBit_two_pow]
      by_cases z : f g = j
      · rw [z] at hno
        have : (thF f g).testBit j = false := by cases hh : (thF f g).testBit j with
          | true => exact absurd hh hno
          | false => rfl
        rw [this, decide_eq_true z]; rfl
      · rw [decide_eq_false z]; simp
    · left
      refine ⟨f, fun i hi => h1 i (by omega), h2', ?_, ?_⟩
      · have : thF f (g + 1) = thF f g ||| (if f g = 7 then 0 else 2 ^ f g) := rfl
        rw [if_pos q, Nat.or_zero] at this
        rw [← this]; exact h3
      · rw [h4]
        show wsm T f g + wo T g (f g) = wsm T f g
        rw [q, wo_7]; rfl
  · have hud : ∀ (f : Nat → Nat) d i, i < g → ud f g d i = f i := fun f d i hi => by unfold ud; rw [if_neg (by omega)]
    have hug : ∀ (f : Nat → Nat) d, ud f g d g = d := fun f d => by unfold ud; rw [if_pos rfl]
    rintro (⟨f, h1, h2, h3, h4⟩ | ⟨d, hd, hs, v', ⟨f, h1, h2, h3, h4⟩, h5⟩)
    · refine ⟨ud f g 7, fun i hi => ?_, fun i j hi hj h7 he => ?_, ?_, ?_⟩
      · by_cases z : i = g
        · rw [z, hug]; exact Or.inr rfl
        · rw [hud f 7 i (by omega)]; exact h1 i (by omega)
      · by_cases z : i = g
        · rw [z, hug] at h7; exact absurd rfl h7
        · by_cases y : j = g
          · rw [y, hug] at he; exact absurd he h7
          · rw [hud f 7 i (by omega)] at h7 he
            rw [hud f 7 j (by omega)] at he
            exact h2 i j (by omega) (by omega) h7 he
      · show thF (ud f g 7) g ||| (if ud f g 7 g = 7 then 0 else 2 ^ ud f g 7 g) = s
        rw [hug, if_pos rfl, Nat.or_zero, thF_congr g (hud f 7)]; exact h3
      · show v = wsm T (ud f g 7) g + wo T g (ud f g 7 g)
        rw [hug, wo_7, wsm_congr g (hud f 7)]; omega
    · have hno : ∀ i, i < g → f i ≠ d := fun i hi e => by
        have : (lsN s d).testBit d = true := by rw [← h3]; exact (th_tb (by omega) g).mpr ⟨i, hi, e⟩
        rw [ls_tb, decide_eq_true rfl] at this
        simp at this
      refine ⟨ud f g d, fun i hi => ?_, fun i j hi hj h7 he => ?_, ?_, ?_⟩
      · by_cases z : i = g
        · rw [z, hug]; exact Or.inl hd
        · rw [hud f d i (by omega)]; exact h1 i (by omega)
      · by_cases z : i = g
        · by_cases y : j = g
          · omega
          · rw [z, hug, hud f d j (by omega)] at he
            exact absurd he.symm (hno j (by omega))
        · by_cases y : j = g
          · rw [y, hug, hud f d i (by omega)] at he
            exact absurd he (hno i (by omega))
          · rw [hud f d i (by omega)] at h7 he
            rw [hud f d j (by omega)] at he
            exact h2 i j (by omega) (by omega) h7 he
      · show thF (ud f g d) g ||| (if ud f g d g = 7 then 0 else 2 ^ ud f g d g) = s
        rw [hug, if_neg (by omega), thF_congr g (hud f d), h3]
        exact ls_or hs
      · show v = wsm T (ud f g d) g + wo T g (ud f g d g)
        rw [hug, wsm_congr g (hud f d)]; omega
theorem asg_0 {T : TB} {nd s v : Nat} : asg T nd 0 s v ↔ s = 0 ∧ v = 0 := by
  constructor
  · rintro ⟨f, -, -, h3, h4⟩
    exact ⟨h3.symm, h4⟩
  · rintro ⟨h1, h2⟩
    exact ⟨fun _ => 7, fun i hi => by omega, fun i j hi => by omega, h1.symm, h2⟩
theorem asg_le {T : TB} {nd g s v : Nat} (hT : TOk T) (hg : g ≤ tn T) (h : asg T nd g s v) : v ≤ 9 * g := by
  obtain ⟨f, -, -, -, h4⟩ := h
  have key : ∀ k, k ≤ tn T → wsm T f k ≤ 9 * k := by
    intro k
    induction k with
    | zero => intro _; exact Nat.le_refl _
    | succ k ih =>
      intro hk
      have := ih (by omega)
      have := wo_le9 (d := f k) hT (show k < tn T by omega)
      show wsm T f k + wo T k (f k) ≤ _
      omega
  rw [h4]; exact key g hg
theorem cnt_sum {f : Nat → Nat} : ∀ n, lieN n f → cnt n f 0 + cnt n f 1 + cnt n f 2 + cnt n f 3 + cnt n f 4 + cnt n f 5 + cnt n f 7 = n
  | 0, _ => rfl
  | n + 1, h => by
    have ih := cnt_sum n (fun g hg => h g (by omega))
    unfold cnt
    have hq : f n = 0 ∨ f n = 1 ∨ f n = 2 ∨ f n = 3 ∨ f n = 4 ∨ f n = 5 ∨ f n = 7 := by have := h n (by omega); omega
    rcases hq with q | q | q | q | q | q | q <;> rw [q] <;> simp <;> omega
theorem cnt_th {n : Nat} {f g : Nat → Nat} (hf : lieN n f) (hg : lieN n g) (hfi : injN n f) (hgi : injN n g) (h : thF f n = thF g n) : ∀ d, cnt n f d = cnt n g d := by
  have low : ∀ d, d < 6 → cnt n f d = cnt n g d := fun d hd => by
    have a := cnt_le1 (f := f) (d := d) n (fun i j hi hj h1 h2 => hfi i j hi hj (by omega) (by omega))
    have b := cnt_le1 (f := g) (d := d) n (fun i j hi hj h1 h2 => hgi i j hi hj (by omega) (by omega))
    have e : cnt n f d ≠ 0 ↔ cnt n g d ≠ 0 := by rw [cnt_pos, cnt_pos, ← th_tb hd n, ← th_tb hd n, h]
    by_cases z : cnt n f d = 0
    · have : ¬ cnt n g d ≠ 0 := fun y => e.mpr y z
      omega
    · have := e.mp z
      omega
  intro d
  rcases Nat.lt_or_ge d 6 with q | q
  · exact low d q
  · by_cases y : d = 7
    · have a := cnt_sum n hf
      have b := cnt_sum n hg
      have := low 0 (by omega); have := low 1 (by omega); have := low 2 (by omega); have := low 3 (by omega); have := low 4 (by omega); have := low 5 (by omega)
      rw [y]; omega
    · have no : ∀ h : Nat → Nat, lieN n h → cnt n h d = 0 := fun h hh => Classical.byContradiction fun z => by
        obtain ⟨i, i1, i2⟩ := (cnt_pos n).mp z
        have := hh i i1
        omega
      rw [no f hf, no g hg]
def mostM (S : AS) (r : Int) : Prop := isB (asg (sT S) (sNd S) (tn (sT S)) (thF (sNow S).1 (tn (sT S)))) r
theorem wTog_0 {T : TB} {co : Int} {f : Nat → Nat} : ∀ k, wTog T co 0 f k = (wsm T f k : Int)
  | 0 => rfl
  | k + 1 => by
    have h : wAt T co 0 k (f k) = (wo T k (f k) : Int) := by
      unfold wAt
      rw [Int.mul_zero, show max (0 : Int) (10 - 0) = 10 by decide]
      omega
    unfold wTog wsm
    rw [wTog_0 k, h]; omega
theorem moF_max {T : TB} {co : Int} {lq : Nat → Nat} : ∀ k, 0 ≤ moF T co lq k ∧ (∀ l, l < k → (wsm T (dgf (lq l)) (tn T) : Int) ≤ moF T co lq k) ∧ (moF T co lq k = 0 ∨ ∃ l, l < k ∧ moF T co lq k = (wsm T (dgf (lq l)) (tn T) : Int))
  | 0 => ⟨Int.le_refl _, fun l h => by omega, Or.inl rfl⟩
  | k + 1 => by
    obtain ⟨a1, a2, a3⟩ := moF_max (T := T) (co := co) (lq := lq) k
    unfold moF
    rw [wTog_0]
    refine ⟨by omega, fun l hl => ?_, ?_⟩
    · by_cases z : l = k
      · rw [z]; omega
      · have := a2 l (by omega); omega
    · rcases Int.le_total (wsm T (dgf (lq k)) (tn T) : Int) (moF T co lq k) with q | q
      · rw [Int.max_eq_left q]
        rcases a3 with a3 | ⟨l, l1, l2⟩
        · exact Or.inl a3
        · exact Or.inr ⟨l, by omega, l2⟩
      · rw [Int.max_eq_right q]
        exact Or.inr ⟨k, by omega, rfl⟩
theorem most_ok {c : Nat} {S : AS} {r : Int} (hS : SOK c S) (h : mostR S r) : mostM S r := by
  obtain ⟨s1, ⟨s2, s3, s4, s5, s6, s7, s8⟩, ⟨s9, s10, s11, s12⟩, s13, s14, -⟩ := id hS
  obtain ⟨m1, m2, m3, m4⟩ := id s14
  obtain ⟨N, lq, hLk, rfl⟩ := h
  obtain ⟨l0, hl0, hq⟩ := lk_at (c := c) hLk m1.lo m2
  have hX := lk_KX hS hLk (T' := sT S) rfl
  have hth : thF (sNow S).1 (tn (sT S)) = thF (sF0 S) (tn (sT S)) := th_AR (lieOK_N s9) (lieOK_N m1) m2
  have lay : ∀ l, l < N → asg (sT S) (sNd S) (tn (sT S)) (thF (sNow S).1 (tn (sT S))) (wsm (sT S) (dgf (lq l)) (tn (sT S))) := fun l hl => by
    obtain ⟨e1, e2, e3, e4, e5, e6⟩ := KX_el hX hl rfl
    refine ⟨dgf (lq l), fun i hi => ?_, e2, by rw [e3, hth], rfl⟩
    have := (cnt_pos (f := dgf (lq l)) (d := dgf (lq l) i) (tn (sT S))).mpr ⟨i, hi, rfl⟩
    rw [e5.2] at this
    obtain ⟨j, j1, j2⟩ := (cnt_pos (tn (sT S))).mp this
    by_cases z : dgf (lq l) i = 7
    · exact Or.inr z
    · left; rw [← j2]; exact s11 j (by omega)
  have back : ∀ v, asg (sT S) (sNd S) (tn (sT S)) (thF (sNow S).1 (tn (sT S))) v → ∃ l, l < N ∧ wsm (sT S) (dgf (lq l)) (tn (sT S)) = v := fun v hv => by
    obtain ⟨f, h1, h2, h3, h4⟩ := hv
    have hl : lieN (tn (sT S)) f := fun i hi => by have := h1 i hi; omega
    have hcn := cnt_th (g := sF0 S) hl (lieOK_N s9) h2 (fun i j _ _ a b => s12 i j a b) (by rw [h3, hth])
    have hfe : ∀ i, i < tn (sT S) → (fun i => if i < tn (sT S) then f i else 7) i = f i := fun i hi => if_pos hi
    have hlo : lo8 (fun i => if i < tn (sT S) then f i else 7) := fun i => by
      dsimp only
      split
      · rename_i hi; have := hl i hi; omega
      · omega
    obtain ⟨l, l1, l2⟩ := hLk.1.2 (fun i => if i < tn (sT S) then f i else 7) hlo ⟨fun i h1 _ => if_neg (by omega), fun d => by rw [cnt_congr _ hfe]; exact hcn d⟩
    refine ⟨l, l1, ?_⟩
    rw [h4]
    refine wsm_congr _ (fun i hi => ?_)
    rw [l2, dgf_enc hlo (by omega)]; exact hfe i hi
  obtain ⟨a1, a2, a3⟩ := moF_max (T := sT S) (co := sCo S) (lq := lq) N
  have hb : ∀ l, l < N → moF (sT S) (sCo S) lq N = (wsm (sT S) (dgf (lq l)) (tn (sT S)) : Int) → mostM S (moF (sT S) (sCo S) lq N) := fun l hl e =>
    Or.inr ⟨_, lay l hl, e, fun v hv => by
      obtain ⟨l', l1, l2⟩ := back v hv
      have := a2 l' l1
      omega⟩
  rcases a3 with a3 | ⟨l, l1, l2⟩
  · exact hb l0 hl0 (by have := a2 l0 hl0; omega)
  · exact hb l l1 l2
theorem c_X10_likesD {l : Launch} {T : TB} {W : Nat → Nat} {g d : Nat} {M : Mem} {P : PMem} (hGr : GrM P) (hk : SkR M T W) (hg : g < tn T) (hd : d < 6) : CtI l yX10_likes cX10_likes 3 (some .int) 0 0 77 [vR 45, vI g, vI d] M P (pI (wo T g d) M P) := by
  have h := c_X10_likes (l := l) (d := d) hGr hk hg (Or.inl hd)
  rw [show nv d = (d : Int) by unfold nv; rw [if_neg (by omega)]] at h
  exact h
set_option maxHeartbeats 4000000 in
set_option maxRecDepth 100000 in
theorem c_X10_most {l : Launch} {c : Nat} {S : AS} {M : Mem} {P : PMem} (hS : SOK c S) (hK : TOK S) (hI : MIv c M P S)  : CtI l yX10_most cX10_most 7 (some .int) 1 22 77 [vR 45] M P (mQ c M P S (mostM S)) := by
  refine Ct_of (own := RX10) (L := [vR 45, vX 1, vX 1, vX 1, vX 1, vX 1, vX 1]) (by decide) rfl rfl (Nat.le_of_ble_eq_true rfl) (fun X Y hl hC hQ => ?_)
  obtain ⟨hGr, ⟨⟨g0, g1, g2, g3, g4⟩, g5⟩, ⟨g6, g7⟩, g8, g9, ⟨g10, g11⟩, g12⟩ := id hI
  obtain ⟨s1, ⟨s2, s3, s4, s5, s6, s7, s8⟩, ⟨s9, s10, s11, s12⟩, s13, s14, s15, s16, s17, s18⟩ := id hS
  obtain ⟨m1, m2, m3, m4⟩ := id s14
  refine G_al0 hC dX10_most_0 ?_
  refine G_callVV hC (c_X10_sits hGr g0 s7) mv_X10_220 (by first | assumption | rfl) (by omega) (by decide) rfl (by decide) dX10_most_1 rfl (Nat.le_of_ble_eq_true rfl) rfl (fun M1 P1 h1 => ?_)
  obtain ⟨rfl, v0⟩ := h1
  obtain ⟨v1, v2⟩ := si_R hS hK hI v0
  obtain ⟨v3, v4⟩ := siI_M hI v0
  have n0 : M1 45 0 = (tn (sT S) : Int) := v1.1.1
  have hTO := TOK_Ok hS hK
  have hal6 := th_lt (f := (sNow S).1) (tn (sT S)) (lieOK_N m1)
  have h78 : ∀ (c2 g : Nat) (gv : Int) (x3 x4 x5 x6 : AV) (M2 : Mem), g + c2 = tn (sT S) → gv = (g : Int) → (∀ s, s < 64 → isB (asg (sT S) (sNd S) g s) (M2 73 s)) → (∀ a, a ≠ 73 → a ≠ 74 → ∀ b, M2 a b = M1 a b) → G X Y 78 [vR 45, vI (thF (sNow S).1 (tn (sT S)) : Nat), vI gv, x3, x4, x5, x6] [] M2 P := by
    intro c2
    induction c2 with
    | zero =>
      intro g gv x3 x4 x5 x6 M2 hgc e1 hA hE
      subst e1
      have hgn : g = tn (sT S) := by omega
      have z0 : M2 45 0 = (g : Int) := by rw [hE 45 (by omega) (by omega), hgn]; exact n0
      have w1 : MIv c M2 P S := MIv_x v3 (fun a h1 h2 b => hE a (by omega) (by omega) b) (fun b hb => hE 45 (by omega) (by omega) b) (qMk_x v3.2.2.2.2.2.2 (hE 45 (by omega) (by omega) 37) (hE 67 (by omega) (by omega)))
      have hex : eqx mdX M M2 := v4.trans (fun a ha b => by unfold mdX at ha; exact hE a (by omega) (by omega) b)
      have hfin : mostM S (M2 73 (thF (sNow S).1 (tn (sT S)))) := by
        have := hA _ hal6
        rw [hgn] at this
        exact this
      refine G_il2 hC dX10_most_78 ?_
      refine G_al0 hC dX10_most_79 ?_
      refine G_getI hC fl_X10_116 (by first | assumption | rfl) (by omega) dX10_most_80 ?_
      rw [z0]
      refine G_icmp_ge (tgt := 237) hC dX10_most_83 (by decide) (by omega) (by omega) (fun c83 => ?_) (fun c83 => ?_)
      · refine G_al0 hC dX10_most_237 ?_
        refine G_getR hC fl_X10_93 (by first | assumption | rfl) (by omega) (by first | assumption | exact hGr _ _ rfl) dX10_most_238 ?_
        refine G_il1 hC dX10_most_241 ?_
        refine G_ialoadN (n := thF (sNow S).1 (tn (sT S))) hC (by first | assumption | rfl) (by omega) (by omega) (by omega) dX10_most_242 ?_
        exact G_iret hC hQ dX10_most_243 ⟨_, rfl, rfl, hfin, w1, hex⟩
      · exact absurd c83 (by omega)
    | succ c2 ihG =>
      intro g gv x3 x4 x5 x6 M2 hgc e1 hA hE
      subst e1
      have hgl : g < tn (sT S) := by omega
      have hrB : ∀ (s : Nat) (x : Int), isB (asg (sT S) (sNd S) g s) x → -1 ≤ x ∧ x ≤ 54 := fun s x hx => by
        rcases hx with ⟨z, -⟩ | ⟨v, z1, z2, -⟩
        · omega
        · have := asg_le hTO (by omega) z1; omega
      have z0 : M2 45 0 = (tn (sT S) : Int) := by rw [hE 45 (by omega) (by omega)]; exact n0
      have h207 : ∀ (c3 s : Nat) (sv : Int) (x4 x5 x6 : AV) (M3 : Mem), s + c3 = 64 → sv = (s : Int) → (∀ s', s' < 64 → isB (asg (sT S) (sNd S) (g + 1) s') (M3 74 s')) → (∀ s', s' < s → M3 73 s' = M3 74 s') → (∀ a, a ≠ 73 → a ≠ 74 → ∀ b, M3 a b = M1 a b) → G X Y 207 [vR 45, vI (thF (sNow S).1 (tn (sT S)) : Nat), vI g, vI sv, x4, x5, x6] [] M3 P := by
        intro c3
        induction c3 with
        | zero =>
          intro s sv x4 x5 x6 M3 hsc f1 hB hC3 hE3
          subst f1
          have hs64 : s = 64 := by omega
          subst hs64
          refine G_il3 hC dX10_most_207 ?_
          refine G_bipush hC dX10_most_208 (by decide) ?_
          refine G_icmp_ge (tgt := 231) hC dX10_most_210 (by decide) (by omega) (by omega) (fun c210 => ?_) (fun c210 => ?_)
          · refine G_inc2 hC dX10_most_231 rfl ?_
            refine G_goto (tgt := 78) hC dX10_most_234 (by decide) ?_
            exact ihG (g + 1) _ _ _ _ _ _ (by omega) (by omega) (fun s hs => by rw [hC3 s hs]; exact hB s hs) hE3
          · exact absurd c210 (by omega)
        | succ c3 ih =>
          intro s sv x4 x5 x6 M3 hsc f1 hB hC3 hE3
          subst f1
          refine G_il3 hC dX10_most_207 ?_
          refine G_bipush hC dX10_most_208 (by decide) ?_
          refine G_icmp_ge (tgt := 231) hC dX10_most_210 (by decide) (by omega) (by omega) (fun c210 => ?_) (fun c210 => ?_)
          · exact absurd c210 (by omega)
          · refine G_al0 hC dX10_most_213 ?_
            refine G_getR hC fl_X10_93 (by first | assumption | rfl) (by omega) (by first | assumption | exact hGr _ _ rfl) dX10_most_214 ?_
            refine G_il3 hC dX10_most_217 ?_
            refine G_al0 hC dX10_most_218 ?_
            refine G_getR hC fl_X10_96 (by first | assumption | rfl) (by omega) (by first | assumption | exact hGr _ _ rfl) dX10_most_219 ?_
            refine G_il3 hC dX10_most_222 ?_
            refine G_ialoadN (n := s) hC (by first | assumption | rfl) (by omega) (by omega) (by omega) dX10_most_223 ?_
            refine G_iastoreN (n := s) hC (by first | assumption | rfl) (by omega) (by omega) (by omega) dX10_most_224 ?_
            refine G_inc3 hC dX10_most_225 rfl ?_
            refine G_goto (tgt := 207) hC dX10_most_228 (by decide) ?_
            exact ih (s + 1) _ _ _ _ _ (by omega) (by omega) (fun s' hs' => by rw [upM_ne (by omega)]; exact hB s' hs') (fun s' hs' => by
                by_cases z : s' = s
                · rw [z, upM_self, upM_ne (by omega)]
                · rw [upM_nej z, upM_ne (by omega)]; exact hC3 s' (by omega)) (fun a h1 h2 b => by rw [upM_ne h1]; exact hE3 a h1 h2 b)
      have h88 : ∀ (c3 s : Nat) (sv : Int) (x4 x5 x6 : AV) (M3 : Mem), s + c3 = 64 → sv = (s : Int) → (∀ s', s' < s → isB (asg (sT S) (sNd S) (g + 1) s') (M3 74 s')) → (∀ a, a ≠ 74 → ∀ b, M3 a b = M2 a b) → G X Y 88 [vR 45, vI (thF (sNow S).1 (tn (sT S)) : Nat), vI g, vI sv, x4, x5, x6] [] M3 P := by
        intro c3
        induction c3 with
        | zero =>
          intro s sv x4 x5 x6 M3 hsc f1 hB hE3
          subst f1
          have hs64 : s = 64 := by omega
          subst hs64
          refine G_il3 hC dX10_most_88 ?_
          refine G_bipush hC dX10_most_89 (by decide) ?_
          refine G_icmp_ge (tgt := 205) hC dX10_most_91 (by decide) (by omega) (by omega) (fun c91 => ?_) (fun c91 => ?_)
          · refine G_iconst hC dX10_most_205 ?_
            refine G_is3 hC dX10_most_206 rfl ?_
            exact h207 64 0 _ _ _ _ _ (by omega) rfl hB (fun s' hs' => by omega) (fun a h1 h2 b => by rw [hE3 a h2]; exact hE a h1 h2 b)
          · exact absurd c91 (by omega)
        | succ c3 ihS =>
          intro s sv x4 x5 x6 M3 hsc f1 hB hE3
          subst f1
          have hs6 : s < 64 := by omega
          have h109 : ∀ (c4 d : Nat) (dv : Int) (x5 x6 : AV) (M4 : Mem), d + c4 = sNd S → dv = (d : Int) → (∀ s', s' < s → isB (asg (sT S) (sNd S) (g + 1) s') (M4 74 s')) → isB (fun v => asg (sT S) (sNd S) g s v ∨ ∃ d', d' < d ∧ s.testBit d' = true ∧ ∃ v', asg (sT S) (sNd S) g (lsN s d') v' ∧ v = v' + wo (sT S) g d') (M4 74 s) → (-1 ≤ M4 74 s ∧ M4 74 s ≤ 100) → (∀ a, a ≠ 74 → ∀ b, M4 a b = M2 a b) → G X Y 109 [vR 45, vI (thF (sNow S).1 (tn (sT S)) : Nat), vI g, vI s, vI dv, x5, x6] [] M4 P := by
            intro c4
            induction c4 with
            | zero =>
              intro d dv x5 x6 M4 hdc k1 hB4 hQ hr4 hE4
              subst k1
              have hdn : d = sNd S := by omega
              have n1 : M4 45 1 = (d : Int) := by rw [hE4 45 (by omega), hE 45 (by omega) (by omega), hdn]; exact v3.2.1.1.2.1
              rw [hdn] at hQ
              have hQ2 : isB (asg (sT S) (sNd S) (g + 1) s) (M4 74 s) := isB_congr hQ (fun v => (asg_s s3).symm)
              refine G_il4 hC dX10_most_109 ?_
              refine G_al0 hC dX10_most_111 ?_
              refine G_getI hC fl_X10_123 (by first | assumption | rfl) (by omega) dX10_most_112 ?_
              rw [n1]
              refine G_icmp_ge (tgt := 199) hC dX10_most_115 (by decide) (by omega) (by omega) (fun c115 => ?_) (fun c115 => ?_)
              · refine G_inc3 hC dX10_most_199 rfl ?_
                refine G_goto (tgt := 88) hC dX10_most_202 (by decide) ?_
                exact ihS (s + 1) _ _ _ _ _ (by omega) (by omega) (fun s' hs' => by
                    by_cases z : s' = s
                    · rw [z]; exact hQ2
                    · exact hB4 s' (by omega)) hE4
              · exact absurd c115 (by omega)
            | succ c4 ih =>
              intro d dv x5 x6 M4 hdc k1 hB4 hQ hr4 hE4
              subst k1
              have hd6 : d < 6 := by omega
              have n1 : M4 45 1 = (sNd S : Int) := by rw [hE4 45 (by omega), hE 45 (by omega) (by omega)]; exact v3.2.1.1.2.1
              have hl6 : lsN s d < 64 := ls_lt (n := 6) hs6
              have hless : bAnd (s : Int) (bXor (bShl 1 (d : Int)) (-1)) = ((lsN s d : Nat) : Int) := by
                rw [bShl1 (by omega)]
                exact bAndN_n (by omega) (by have : 2 ^ d ≤ 2 ^ 5 := Nat.pow_le_pow_right (by omega) (by omega); omega)
              have z73 : M4 73 (lsN s d) = M2 73 (lsN s d) := hE4 73 (by omega) _
              have hBl := hA (lsN s d) hl6
              have hBr := hrB _ _ hBl
              have hk4 : SkR M4 (sT S) (sW S) := SkR_x v1 (fun b hb => by rw [hE4 45 (by omega)]; exact hE 45 (by omega) (by omega) b) (fun a h1 h2 b => by rw [hE4 a (by omega)]; exact hE a (by omega) (by omega) b)
              have hw9 := wo_le9 (d := d) hTO hgl
              have h163 : ∀ (y : Int) (x6 : AV), isB (fun v => s.testBit d = true ∧ ∃ v', asg (sT S) (sNd S) g (lsN s d) v' ∧ v = v' + wo (sT S) g d) y → (-1 ≤ y ∧ y ≤ 100) → G X Y 163 [vR 45, vI (thF (sNow S).1 (tn (sT S)) : Nat), vI g, vI s, vI d, vI (lsN s d : Nat), x6] [vI y] M4 P := by
                intro y x6 hy hyr
                have hnext : ∀ z : Int, (M4 74 s < y ∧ z = y) ∨ (y ≤ M4 74 s ∧ z = M4 74 s) → isB (fun v => asg (sT S) (sNd S) g s v ∨ ∃ d', d' < d + 1 ∧ s.testBit d' = true ∧ ∃ v', asg (sT S) (sNd S) g (lsN s d') v' ∧ v = v' + wo (sT S) g d') (upM M4 74 s z 74 s) ∧ (-1 ≤ upM M4 74 s z 74 s ∧ upM M4 74 s z 74 s ≤ 100) := fun z hz => by
                  rw [upM_self]
                  refine ⟨isB_congr (isB_or hQ hy hz) (fun v => ?_), by omega⟩
                  constructor
                  · rintro ((h | ⟨d', h1, h2⟩) | ⟨h1, h2⟩)
                    · exact Or.inl h
                    · exact Or.inr ⟨d', by omega, h2⟩
                    · exact Or.inr ⟨d, by omega, h1, h2⟩
                  · rintro (h | ⟨d', h1, h2⟩)
                    · exact Or.inl (Or.inl h)
                    · by_cases q : d' = d
                      · rw [q] at h2; exact Or.inr h2
                      · exact Or.inl (Or.inr ⟨d', by omega, h2⟩)
                refine G_is6 hC dX10_most_163 rfl ?_
                refine G_al0 hC dX10_most_165 ?_
                refine G_getR hC fl_X10_96 (by first | assumption | rfl) (by omega) (by first | assumption | exact hGr _ _ rfl) dX10_most_166 ?_
                refine G_il3 hC dX10_most_169 ?_
                refine G_il6 hC dX10_most_170 ?_
                refine G_al0 hC dX10_most_172 ?_
                refine G_getR hC fl_X10_96 (by first | assumption | rfl) (by omega) (by first | assumption | exact hGr _ _ rfl) dX10_most_173 ?_
                refine G_il3 hC dX10_most_176 ?_
                refine G_ialoadN (n := s) hC (by first | assumption | rfl) (by omega) (by omega) (by omega) dX10_most_177 ?_
                refine G_icmp_le (tgt := 186) hC dX10_most_178 (by decide) (by omega) (by omega) (fun c178 => ?_) (fun c178 => ?_)
                · refine G_al0 hC dX10_most_186 ?_
                  refine G_getR hC fl_X10_96 (by first | assumption | rfl) (by omega) (by first | assumption | exact hGr _ _ rfl) dX10_most_187 ?_
                  refine G_il3 hC dX10_most_190 ?_
                  refine G_ialoadN (n := s) hC (by first | assumption | rfl) (by omega) (by omega) (by omega) dX10_most_191 ?_
                  refine G_iastoreN (n := s) hC (by first | assumption | rfl) (by omega) (by omega) (by omega) dX10_most_192 ?_
                  refine G_inc4 hC dX10_most_193 rfl ?_
                  refine G_goto (tgt := 109) hC dX10_most_196 (by decide) ?_
                  exact ih (d + 1) _ _ _ _ (by omega) (by omega) (fun s' hs' => by rw [upM_nej (by omega)]; exact hB4 s' hs') (hnext _ (by omega)).1 (hnext _ (by omega)).2 (fun a h1 b => by rw [upM_ne h1]; exact hE4 a h1 b)
                · refine G_il6 hC dX10_most_181 ?_
                  refine G_goto (tgt := 192) hC dX10_most_183 (by decide) ?_
                  refine G_iastoreN (n := s) hC (by first | assumption | rfl) (by omega) (by omega) (by omega) dX10_most_192 ?_
                  refine G_inc4 hC dX10_most_193 rfl ?_
                  refine G_goto (tgt := 109) hC dX10_most_196 (by decide) ?_
                  exact ih (d + 1) _ _ _ _ (by omega) (by omega) (fun s' hs' => by rw [upM_nej (by omega)]; exact hB4 s' hs') (hnext _ (by omega)).1 (hnext _ (by omega)).2 (fun a h1 b => by rw [upM_ne h1]; exact hE4 a h1 b)
              by_cases hb : s.testBit d = true
              · have hne := ls_1 hb
                rcases hBl with ⟨u1, u2⟩ | ⟨v, u1, u2, u3⟩
                · have hy : isB (fun v => s.testBit d = true ∧ ∃ v', asg (sT S) (sNd S) g (lsN s d) v' ∧ v = v' + wo (sT S) g d) (-1) := Or.inl ⟨rfl, fun v hv => by obtain ⟨-, v', h1, -⟩ := hv; exact u2 v' h1⟩
                  rw [u1] at z73
                  refine G_il4 hC dX10_most_109 ?_
                  refine G_al0 hC dX10_most_111 ?_
                  refine G_getI hC fl_X10_123 (by first | assumption | rfl) (by omega) dX10_most_112 ?_
                  rw [n1]
                  refine G_icmp_ge (tgt := 199) hC dX10_most_115 (by decide) (by omega) (by omega) (fun c115 => ?_) (fun c115 => ?_)
                  · exact absurd c115 (by omega)
                  · refine G_il3 hC dX10_most_118 ?_
                    refine G_iconst hC dX10_most_119 ?_
                    refine G_il4 hC dX10_most_120 ?_
                    refine G_ishl hC dX10_most_122 ?_
                    refine G_iconst hC dX10_most_123 ?_
                    refine G_ixor hC dX10_most_124 ?_
                    refine G_iand hC dX10_most_125 ?_
                    rw [hless]
                    refine G_is5 hC dX10_most_126 rfl ?_
                    refine G_il5 hC dX10_most_128 ?_
                    refine G_il3 hC dX10_most_130 ?_
                    refine G_icmp_eq (tgt := 144) hC dX10_most_131 (by decide) (by omega) (by omega) (fun c131 => ?_) (fun c131 => ?_)
                    · exact absurd c131 (by omega)
                    · refine G_al0 hC dX10_most_134 ?_
                      refine G_getR hC fl_X10_93 (by first | assumption | rfl) (by omega) (by first | assumption | exact hGr _ _ rfl) dX10_most_135 ?_
                      refine G_il5 hC dX10_most_138 ?_
                      refine G_ialoadN (n := lsN s d) hC (by first | assumption | rfl) (by omega) (by omega) (by omega) dX10_most_140 ?_
                      rw [z73]
                      refine G_if_ge (tgt := 148) hC dX10_most_141 (by decide) (by omega) (fun c141 => ?_) (fun c141 => ?_)
                      · exact absurd c141 (by omega)
                      · refine G_iconst hC dX10_most_144 ?_
                        refine G_goto (tgt := 163) hC dX10_most_145 (by decide) ?_
                        exact h163 _ _ hy (by omega)
                · have hy : isB (fun v => s.testBit d = true ∧ ∃ v', asg (sT S) (sNd S) g (lsN s d) v' ∧ v = v' + wo (sT S) g d) ((v : Int) + (wo (sT S) g d : Int)) := Or.inr ⟨v + wo (sT S) g d, ⟨hb, v, u1, rfl⟩, by omega, fun w hw => by obtain ⟨-, v', h1, h2⟩ := hw; have := u3 v' h1; omega⟩
                  rw [u2] at z73 hBr
                  refine G_il4 hC dX10_most_109 ?_
                  refine G_al0 hC dX10_most_111 ?_
                  refine G_getI hC fl_X10_123 (by first | assumption | rfl) (by omega) dX10_most_112 ?_
                  rw [n1]
                  refine G_icmp_ge (tgt := 199) hC dX10_most_115 (by decide) (by omega) (by omega) (fun c115 => ?_) (fun c115 => ?_)
                  · exact absurd c115 (by omega)
                  · refine G_il3 hC dX10_most_118 ?_
                    refine G_iconst hC dX10_most_119 ?_
                    refine G_il4 hC dX10_most_120 ?_
                    refine G_ishl hC dX10_most_122 ?_
                    refine G_iconst hC dX10_most_123 ?_
                    refine G_ixor hC dX10_most_124 ?_
                    refine G_iand hC dX10_most_125 ?_
                    rw [hless]
                    refine G_is5 hC dX10_most_126 rfl ?_
                    refine G_il5 hC dX10_most_128 ?_
                    refine G_il3 hC dX10_most_130 ?_
                    refine G_icmp_eq (tgt := 144) hC dX10_most_131 (by decide) (by omega) (by omega) (fun c131 => ?_) (fun c131 => ?_)
                    · exact absurd c131 (by omega)
                    · refine G_al0 hC dX10_most_134 ?_
                      refine G_getR hC fl_X10_93 (by first | assumption | rfl) (by omega) (by first | assumption | exact hGr _ _ rfl) dX10_most_135 ?_
                      refine G_il5 hC dX10_most_138 ?_
                      refine G_ialoadN (n := lsN s d) hC (by first | assumption | rfl) (by omega) (by omega) (by omega) dX10_most_140 ?_
                      rw [z73]
                      refine G_if_ge (tgt := 148) hC dX10_most_141 (by decide) (by omega) (fun c141 => ?_) (fun c141 => ?_)
                      · refine G_al0 hC dX10_most_148 ?_
                        refine G_getR hC fl_X10_93 (by first | assumption | rfl) (by omega) (by first | assumption | exact hGr _ _ rfl) dX10_most_149 ?_
                        refine G_il5 hC dX10_most_152 ?_
                        refine G_ialoadN (n := lsN s d) hC (by first | assumption | rfl) (by omega) (by omega) (by omega) dX10_most_154 ?_
                        rw [z73]
                        refine G_al0 hC dX10_most_155 ?_
                        refine G_il2 hC dX10_most_156 ?_
                        refine G_il4 hC dX10_most_157 ?_
                        refine G_callVI hC (c_X10_likesD (g := g) (d := d) hGr hk4 hgl hd6) mv_X10_209 (by first | assumption | rfl) (by omega) (by decide) rfl (by decide) dX10_most_159 rfl (Nat.le_of_ble_eq_true rfl) rfl (fun z159 M159 P159 h159 => ?_)
                        obtain ⟨rfl, rfl, rfl⟩ := h159
                        refine G_iadd hC dX10_most_162 ?_
                        exact h163 _ _ hy (by omega)
                      · exact absurd c141 (by omega)
              · have hne := ls_0 hb
                have hy : isB (fun v => s.testBit d = true ∧ ∃ v', asg (sT S) (sNd S) g (lsN s d) v' ∧ v = v' + wo (sT S) g d) (-1) := Or.inl ⟨rfl, fun v hv => hb hv.1⟩
                refine G_il4 hC dX10_most_109 ?_
                refine G_al0 hC dX10_most_111 ?_
                refine G_getI hC fl_X10_123 (by first | assumption | rfl) (by omega) dX10_most_112 ?_
                rw [n1]
                refine G_icmp_ge (tgt := 199) hC dX10_most_115 (by decide) (by omega) (by omega) (fun c115 => ?_) (fun c115 => ?_)
                · exact absurd c115 (by omega)
                · refine G_il3 hC dX10_most_118 ?_
                  refine G_iconst hC dX10_most_119 ?_
                  refine G_il4 hC dX10_most_120 ?_
                  refine G_ishl hC dX10_most_122 ?_
                  refine G_iconst hC dX10_most_123 ?_
                  refine G_ixor hC dX10_most_124 ?_
                  refine G_iand hC dX10_most_125 ?_
                  rw [hless]
                  refine G_is5 hC dX10_most_126 rfl ?_
                  refine G_il5 hC dX10_most_128 ?_
                  refine G_il3 hC dX10_most_130 ?_
                  refine G_icmp_eq (tgt := 144) hC dX10_most_131 (by decide) (by omega) (by omega) (fun c131 => ?_) (fun c131 => ?_)
                  · refine G_iconst hC dX10_most_144 ?_
                    refine G_goto (tgt := 163) hC dX10_most_145 (by decide) ?_
                    exact h163 _ _ hy (by omega)
                  · exact absurd (by rw [hne]) c131
          have z73 : M3 73 s = M2 73 s := hE3 73 (by omega) s
          have hAs := hA s hs6
          have hAr := hrB _ _ hAs
          refine G_il3 hC dX10_most_88 ?_
          refine G_bipush hC dX10_most_89 (by decide) ?_
          refine G_icmp_ge (tgt := 205) hC dX10_most_91 (by decide) (by omega) (by omega) (fun c91 => ?_) (fun c91 => ?_)
          · exact absurd c91 (by omega)
          · refine G_al0 hC dX10_most_94 ?_
            refine G_getR hC fl_X10_96 (by first | assumption | rfl) (by omega) (by first | assumption | exact hGr _ _ rfl) dX10_most_95 ?_
            refine G_il3 hC dX10_most_98 ?_
            refine G_al0 hC dX10_most_99 ?_
            refine G_getR hC fl_X10_93 (by first | assumption | rfl) (by omega) (by first | assumption | exact hGr _ _ rfl) dX10_most_100 ?_
            refine G_il3 hC dX10_most_103 ?_
            refine G_ialoadN (n := s) hC (by first | assumption | rfl) (by omega) (by omega) (by omega) dX10_most_104 ?_
            rw [z73]
            refine G_iastoreN (n := s) hC (by first | assumption | rfl) (by omega) (by omega) (by omega) dX10_most_105 ?_
            refine G_iconst hC dX10_most_106 ?_
            refine G_is4 hC dX10_most_107 rfl ?_
            exact h109 (sNd S) 0 _ _ _ _ (by omega) rfl (fun s' hs' => by rw [upM_nej (by omega)]; exact hB s' hs') (by rw [upM_self]; exact isB_congr hAs (fun v => ⟨fun h => Or.inl h, fun h => by rcases h with h | ⟨d', h1, -⟩; exact h; omega⟩)) (by rw [upM_self]; omega) (fun a h1 b => by rw [upM_ne h1]; exact hE3 a h1 b)
      refine G_il2 hC dX10_most_78 ?_
      refine G_al0 hC dX10_most_79 ?_
      refine G_getI hC fl_X10_116 (by first | assumption | rfl) (by omega) dX10_most_80 ?_
      rw [z0]
      refine G_icmp_ge (tgt := 237) hC dX10_most_83 (by decide) (by omega) (by omega) (fun c83 => ?_) (fun c83 => ?_)
      · exact absurd c83 (by omega)
      · refine G_iconst hC dX10_most_86 ?_
        refine G_is3 hC dX10_most_87 rfl ?_
        exact h88 64 0 _ _ _ _ _ (by omega) rfl (fun s' hs' => by omega) (fun a h1 b => rfl)
  have h49 : ∀ (c2 s : Nat) (sv : Int) (x3 x4 x5 x6 : AV) (M2 : Mem), s + c2 = 64 → sv = (s : Int) → (∀ s', s' < s → isB (asg (sT S) (sNd S) 0 s') (M2 73 s')) → (∀ a, a ≠ 73 → ∀ b, M2 a b = M1 a b) → G X Y 49 [vR 45, vI (thF (sNow S).1 (tn (sT S)) : Nat), vI sv, x3, x4, x5, x6] [] M2 P := by
    intro c2
    induction c2 with
    | zero =>
      intro s sv x3 x4 x5 x6 M2 hsc f1 hB hE
      subst f1
      have hs64 : s = 64 := by omega
      subst hs64
      refine G_il2 hC dX10_most_49 ?_
      refine G_bipush hC dX10_most_50 (by decide) ?_
      refine G_icmp_ge (tgt := 76) hC dX10_most_52 (by decide) (by omega) (by omega) (fun c52 => ?_) (fun c52 => ?_)
      · refine G_iconst hC dX10_most_76 ?_
        refine G_is2 hC dX10_most_77 rfl ?_
        exact h78 (tn (sT S)) 0 _ _ _ _ _ _ (by omega) rfl (fun s hs => hB s hs) (fun a h1 h2 b => hE a h1 b)
      · exact absurd c52 (by omega)
    | succ c2 ih =>
      intro s sv x3 x4 x5 x6 M2 hsc f1 hB hE
      subst f1
      have hnx : ∀ u : Int, u = (if s = 0 then 0 else -1) → G X Y 70 [vR 45, vI (thF (sNow S).1 (tn (sT S)) : Nat), vI s, x3, x4, x5, x6] [] (upM M2 73 s u) P := fun u hu => by
        have hb : isB (asg (sT S) (sNd S) 0 s) u := by
          by_cases z : s = 0
          · rw [if_pos z] at hu
            exact Or.inr ⟨0, asg_0.mpr ⟨z, rfl⟩, hu, fun v hv => by have := (asg_0.mp hv).2; omega⟩
          · rw [if_neg z] at hu
            exact Or.inl ⟨hu, fun v hv => z (asg_0.mp hv).1⟩
        refine G_inc2 hC dX10_most_70 rfl ?_
        refine G_goto (tgt := 49) hC dX10_most_73 (by decide) ?_
        exact ih (s + 1) _ _ _ _ _ _ (by omega) (by omega) (fun s' hs' => by
            by_cases z : s' = s
            · rw [z, upM_self]; exact hb
            · rw [upM_nej z]; exact hB s' (by omega)) (fun a h1 b => by rw [upM_ne h1]; exact hE a h1 b)
      refine G_il2 hC dX10_most_49 ?_
      refine G_bipush hC dX10_most_50 (by decide) ?_
      refine G_icmp_ge (tgt := 76) hC dX10_most_52 (by decide) (by omega) (by omega) (fun c52 => ?_) (fun c52 => ?_)
      · exact absurd c52 (by omega)
      · refine G_al0 hC dX10_most_55 ?_
        refine G_getR hC fl_X10_93 (by first | assumption | rfl) (by omega) (by first | assumption | exact hGr _ _ rfl) dX10_most_56 ?_
        refine G_il2 hC dX10_most_59 ?_
        refine G_il2 hC dX10_most_60 ?_
        refine G_if_ne (tgt := 68) hC dX10_most_61 (by decide) (by omega) (fun c61 => ?_) (fun c61 => ?_)
        · refine G_iconst hC dX10_most_68 ?_
          refine G_iastoreN (n := s) hC (by first | assumption | rfl) (by omega) (by omega) (by omega) dX10_most_69 ?_
          first
            | exact hnx _ (by rw [if_neg (by omega)])
            | exact hnx _ (by rw [if_pos (by omega)])
        · refine G_iconst hC dX10_most_64 ?_
          refine G_goto (tgt := 69) hC dX10_most_65 (by decide) ?_
          refine G_iastoreN (n := s) hC (by first | assumption | rfl) (by omega) (by omega) (by omega) dX10_most_69 ?_
          first
            | exact hnx _ (by rw [if_neg (by omega)])
            | exact hnx _ (by rw [if_pos (by omega)])
  have h8 : ∀ (c2 g : Nat) (gv av : Int) (x3 x4 x5 x6 : AV), g + c2 = tn (sT S) → gv = (g : Int) → av = (thF (sNow S).1 g : Nat) → G X Y 8 [vR 45, vI av, vI gv, x3, x4, x5, x6] [] M1 P := by
    intro c2
    induction c2 with
    | zero =>
      intro g gv av x3 x4 x5 x6 hgc f1 f2
      subst f1; subst f2
      have hgn : g = tn (sT S) := by omega
      rw [hgn]
      refine G_il2 hC dX10_most_8 ?_
      refine G_al0 hC dX10_most_9 ?_
      refine G_getI hC fl_X10_116 (by first | assumption | rfl) (by omega) dX10_most_10 ?_
      rw [n0]
      refine G_icmp_ge (tgt := 47) hC dX10_most_13 (by decide) (by omega) (by omega) (fun c13 => ?_) (fun c13 => ?_)
      · refine G_iconst hC dX10_most_47 ?_
        refine G_is2 hC dX10_most_48 rfl ?_
        exact h49 64 0 _ _ _ _ _ _ (by omega) rfl (fun s hs => by omega) (fun a h1 b => rfl)
      · exact absurd c13 (by omega)
    | succ c2 ih =>
      intro g gv av x3 x4 x5 x6 hgc f1 f2
      subst f1; subst f2
      have zs : M1 63 g = nv ((sNow S).1 g) := v2 g (by omega)
      have ht6 := th_lt (f := (sNow S).1) g (lieOK_N m1)
      have hlg := m1 g
      by_cases h7 : (sNow S).1 g = 7
      · have hv1 : nv ((sNow S).1 g) = -1 := by unfold nv; rw [if_pos h7]
        have hts : thF (sNow S).1 (g + 1) = thF (sNow S).1 g := by
          show thF (sNow S).1 g ||| (if (sNow S).1 g = 7 then 0 else 2 ^ (sNow S).1 g) = _
          rw [if_pos h7, Nat.or_zero]
        refine G_il2 hC dX10_most_8 ?_
        refine G_al0 hC dX10_most_9 ?_
        refine G_getI hC fl_X10_116 (by first | assumption | rfl) (by omega) dX10_most_10 ?_
        rw [n0]
        refine G_icmp_ge (tgt := 47) hC dX10_most_13 (by decide) (by omega) (by omega) (fun c13 => ?_) (fun c13 => ?_)
        · exact absurd c13 (by omega)
        · refine G_il1 hC dX10_most_16 ?_
          refine G_al0 hC dX10_most_17 ?_
          refine G_getR hC fl_X10_61 (by first | assumption | rfl) (by omega) (by first | assumption | exact hGr _ _ rfl) dX10_most_18 ?_
          refine G_il2 hC dX10_most_21 ?_
          refine G_ialoadN (n := g) hC (by first | assumption | rfl) (by omega) (by omega) (by omega) dX10_most_22 ?_
          rw [zs, hv1]
          refine G_iconst hC dX10_most_23 ?_
          refine G_icmp_ne (tgt := 31) hC dX10_most_24 (by decide) (by omega) (by omega) (fun c24 => ?_) (fun c24 => ?_)
          · exact absurd rfl c24
          · refine G_iconst hC dX10_most_27 ?_
            refine G_goto (tgt := 39) hC dX10_most_28 (by decide) ?_
            refine G_ior hC dX10_most_39 ?_
            refine G_is1 hC dX10_most_40 rfl ?_
            refine G_inc2 hC dX10_most_41 rfl ?_
            refine G_goto (tgt := 8) hC dX10_most_44 (by decide) ?_
            exact ih (g + 1) _ _ _ _ _ _ (by omega) (by omega) (by rw [hts, show (0 : Int) = ((0 : Nat) : Int) by rfl, bOr_n (by omega) (by omega), Nat.or_zero])
      · have hv1 : nv ((sNow S).1 g) = ((sNow S).1 g : Int) := by unfold nv; rw [if_neg h7]
        have hts : thF (sNow S).1 (g + 1) = thF (sNow S).1 g ||| 2 ^ (sNow S).1 g := by
          show thF (sNow S).1 g ||| (if (sNow S).1 g = 7 then 0 else 2 ^ (sNow S).1 g) = _
          rw [if_neg h7]
        have hp5 : 2 ^ (sNow S).1 g ≤ 2 ^ 5 := Nat.pow_le_pow_right (by omega) (by omega)
        refine G_il2 hC dX10_most_8 ?_
        refine G_al0 hC dX10_most_9 ?_
        refine G_getI hC fl_X10_116 (by first | assumption | rfl) (by omega) dX10_most_10 ?_
        rw [n0]
        refine G_icmp_ge (tgt := 47) hC dX10_most_13 (by decide) (by omega) (by omega) (fun c13 => ?_) (fun c13 => ?_)
        · exact absurd c13 (by omega)
        · refine G_il1 hC dX10_most_16 ?_
          refine G_al0 hC dX10_most_17 ?_
          refine G_getR hC fl_X10_61 (by first | assumption | rfl) (by omega) (by first | assumption | exact hGr _ _ rfl) dX10_most_18 ?_
          refine G_il2 hC dX10_most_21 ?_
          refine G_ialoadN (n := g) hC (by first | assumption | rfl) (by omega) (by omega) (by omega) dX10_most_22 ?_
          rw [zs, hv1]
          refine G_iconst hC dX10_most_23 ?_
          refine G_icmp_ne (tgt := 31) hC dX10_most_24 (by decide) (by omega) (by omega) (fun c24 => ?_) (fun c24 => ?_)
          · refine G_iconst hC dX10_most_31 ?_
            refine G_al0 hC dX10_most_32 ?_
            refine G_getR hC fl_X10_61 (by first | assumption | rfl) (by omega) (by first | assumption | exact hGr _ _ rfl) dX10_most_33 ?_
            refine G_il2 hC dX10_most_36 ?_
            refine G_ialoadN (n := g) hC (by first | assumption | rfl) (by omega) (by omega) (by omega) dX10_most_37 ?_
            rw [zs, hv1]
            refine G_ishl hC dX10_most_38 ?_
            refine G_ior hC dX10_most_39 ?_
            refine G_is1 hC dX10_most_40 rfl ?_
            refine G_inc2 hC dX10_most_41 rfl ?_
            refine G_goto (tgt := 8) hC dX10_most_44 (by decide) ?_
            exact ih (g + 1) _ _ _ _ _ _ (by omega) (by omega) (by rw [hts, bShl1 (by omega), bOr_n (by omega) (by omega)])
          · exact absurd c24 (by omega)
  refine G_iconst hC dX10_most_4 ?_
  refine G_is1 hC dX10_most_5 rfl ?_
  refine G_iconst hC dX10_most_6 ?_
  refine G_is2 hC dX10_most_7 rfl ?_
  exact h8 (tn (sT S)) 0 _ _ _ _ _ _ (by omega) rfl rfl
