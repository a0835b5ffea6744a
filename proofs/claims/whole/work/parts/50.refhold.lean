/-! the reference: who holds up -/
noncomputable def hcD (Pp : Nat → Prop) : Nat → Nat
  | 0 => 0
  | d + 1 => by classical exact hcD Pp d + (if Pp d then 1 else 0)
noncomputable def hcG (Pp : Nat → Nat → Prop) (nd : Nat) : Nat → Nat
  | 0 => 0
  | g + 1 => hcG Pp nd g + hcD (Pp g) nd
theorem hcD_1 {Pp : Nat → Prop} {d : Nat} (h : Pp d) : hcD Pp (d + 1) = hcD Pp d + 1 := by rw [hcD, if_pos h]
theorem hcD_0 {Pp : Nat → Prop} {d : Nat} (h : ¬ Pp d) : hcD Pp (d + 1) = hcD Pp d := by rw [hcD, if_neg h]; rfl
theorem hcD_le {Pp : Nat → Prop} : ∀ d, hcD Pp d ≤ d
  | 0 => Nat.le_refl _
  | d + 1 => by
    have ih := hcD_le (Pp := Pp) d
    by_cases h : Pp d
    · rw [hcD_1 h]; omega
    · rw [hcD_0 h]; omega
theorem hcG_le {Pp : Nat → Nat → Prop} {nd : Nat} (hn : nd ≤ 6) : ∀ g, hcG Pp nd g ≤ 6 * g
  | 0 => Nat.le_refl _
  | g + 1 => by
    have ih := hcG_le (Pp := Pp) hn g
    have := hcD_le (Pp := Pp g) nd
    show hcG Pp nd g + hcD (Pp g) nd ≤ _
    omega
theorem hcD_cut {Pp : Nat → Prop} {nd : Nat} (h : ∀ d, nd ≤ d → ¬ Pp d) : ∀ m, hcD Pp (nd + m) = hcD Pp nd
  | 0 => rfl
  | m + 1 => by rw [show nd + (m + 1) = nd + m + 1 by omega, hcD_0 (h _ (by omega)), hcD_cut h m]
theorem hcG_d {Pp : Nat → Nat → Prop} {nd m : Nat} (h : ∀ g d, nd ≤ d → ¬ Pp g d) : ∀ g, hcG Pp (nd + m) g = hcG Pp nd g
  | 0 => rfl
  | g + 1 => by
    show hcG Pp (nd + m) g + hcD (Pp g) (nd + m) = hcG Pp nd g + hcD (Pp g) nd
    rw [hcG_d h g, hcD_cut (h g)]
theorem hcD_z {Pp : Nat → Prop} (h : ∀ d, ¬ Pp d) : ∀ d, hcD Pp d = 0
  | 0 => rfl
  | d + 1 => by rw [hcD_0 (h d), hcD_z h d]
theorem hcG_cut {Pp : Nat → Nat → Prop} {nd n : Nat} (h : ∀ g d, n ≤ g → ¬ Pp g d) : ∀ m, hcG Pp nd (n + m) = hcG Pp nd n
  | 0 => rfl
  | m + 1 => by
    show hcG Pp nd (n + m) + hcD (Pp (n + m)) nd = _
    rw [hcG_cut h m, hcD_z (fun d => h (n + m) d (by omega))]; rfl
theorem pc_hcD {n k : Nat} {Pp : Nat → Prop} (h : ∀ d, d < 6 → (n.testBit (6 * k + d) = true ↔ Pp d)) : ∀ d, d ≤ 6 → pcN n (6 * k + d) = pcN n (6 * k) + hcD Pp d
  | 0, _ => rfl
  | d + 1, hd => by
    have ih := pc_hcD h d (by omega)
    show pcN n (6 * k + d) + (if n.testBit (6 * k + d) = true then 1 else 0) = _
    rw [ih]
    by_cases q : Pp d
    · rw [if_pos ((h d (by omega)).mpr q), hcD_1 q]; omega
    · rw [if_neg (fun z => q ((h d (by omega)).mp z)), hcD_0 q]; omega
theorem pc_hcG {n : Nat} {Pp : Nat → Nat → Prop} (h : ∀ g d, g < 6 → d < 6 → (n.testBit (6 * g + d) = true ↔ Pp g d)) : ∀ k, k ≤ 6 → pcN n (6 * k) = hcG Pp 6 k
  | 0, _ => rfl
  | k + 1, hk => by
    have ih := pc_hcG h k (by omega)
    show pcN n (6 * k + 6) = hcG Pp 6 k + hcD (Pp k) 6
    rw [pc_hcD (fun d hd => h k d (by omega) hd) 6 (by omega), ih]
def heP (S : AS) (who g d : Nat) : Prop := g < tn (sT S) ∧ (sW S g).testBit d = true ∧ rcP (sT S) (enc (sNow S).1) g d ∧ ¬ rcP (holdT (sT S) who) (enc (sNow S).1) g d
noncomputable def heN (S : AS) (who : Nat) : Nat := hcG (heP S who) (sNd S) (tn (sT S))
noncomputable def holdsS (S : AS) (i : Int) : Int := if 0 ≤ i ∧ i ≤ 1 then (if i = 0 then (hoF (fun g => (heN S g : Int)) (tn (sT S))).1 else (hoF (fun g => (heN S g : Int)) (tn (sT S))).2) else -1
theorem wn_lo {c : Nat} {S : AS} (hS : SOK c S) : lo64 (wnt (sT S) (sW S)) := fun i => by
  unfold wnt
  split
  · rename_i h; exact sW_lt hS i h
  · omega
theorem isPR_lt {T : TB} {q so z : Nat} (hso : so < 2 ^ 36) (h : isPR T q so z) : z < 2 ^ 36 := by
  obtain ⟨m, k, e, -⟩ := h
  rw [e]; exact metN_lt hso k
theorem hold_ok {c N : Nat} {S : AS} {lq : Nat → Nat} {a b : Int} (hS : SOK c S) (hLk : lkR S N lq) (h : hoR (sT S) (sW S) (enc (sNow S).1) a b) : a = (hoF (fun g => (heN S g : Int)) (tn (sT S))).1 ∧ b = (hoF (fun g => (heN S g : Int)) (tn (sT S))).2 := by
  obtain ⟨s1, ⟨s2, s3, s4, s5, s6, s7, s8⟩, ⟨s9, s10, s11, s12⟩, s13, s14, -⟩ := id hS
  obtain ⟨m1, m2, m3, m4⟩ := id s14
  obtain ⟨l0, hl0, hq⟩ := lk_at (c := c) hLk m1.lo m2
  have hli := LQ_lie s9 hLk.1
  obtain ⟨hv, ov, p1, p2, rfl, rfl⟩ := h
  rw [← hq] at p1 p2
  have hvl := isPR_lt (encH_lt (wn_lo hS)) p1
  have key : ∀ k, k < tn (sT S) → mnF hv ov k = (heN S k : Int) := fun k hk => by
    have hX := lk_KX hS hLk (T' := sT S) rfl
    have hX2 := lk_KX hS hLk (T' := holdT (sT S) k) rfl
    have q1 := pr_ok hX.1 hl0 hli p1
    have q2 := pr_ok hX2.1 hl0 hli (p2 k hk)
    unfold mnF
    rw [bc_count (Nat.xor_lt_two_pow hvl (and_lt hvl))]
    have hb : ∀ g d, g < 6 → d < 6 → ((hv ^^^ (hv &&& ov k)).testBit (6 * g + d) = true ↔ heP S k g d) := fun g d hg hd => by
      have a1 := q1 g d hg hd
      have a2 := q2 g d hg hd
      have a3 := encK_tb (wn_lo hS) 6 (6 * g + d)
      rw [show (6 * g + d) / 6 = g by omega, show (6 * g + d) % 6 = d by omega, decide_eq_true (show 6 * g + d < 6 * 6 by omega), Bool.true_and] at a3
      have a4 : (encH (wnt (sT S) (sW S))).testBit (6 * g + d) = (wnt (sT S) (sW S) g).testBit d := a3
      rw [a4] at a1
      rw [Nat.testBit_xor, Nat.testBit_and]
      unfold heP
      rw [← hq]
      by_cases hgn : g < tn (sT S)
      · have a5 : wnt (sT S) (sW S) g = sW S g := by unfold wnt; rw [if_pos hgn]
        rw [a5] at a1
        constructor
        · intro z
          have z1 : hv.testBit (6 * g + d) = true := by
            cases hh : hv.testBit (6 * g + d) with
            | true => rfl
            | false => rw [hh] at z; simp at z
          have z2 := a1.mp z1
          refine ⟨hgn, z2.1, z2.2, fun y => ?_⟩
          rw [z1, a2.mpr ⟨z1, y⟩] at z
          simp at z
        · rintro ⟨-, y1, y2, y3⟩
          have z1 := a1.mpr ⟨y1, y2⟩
          have z2 : (ov k).testBit (6 * g + d) = false := by
            cases hh : (ov k).testBit (6 * g + d) with
            | true => exact absurd (a2.mp hh).2 y3
            | false => rfl
          rw [z1, z2]; rfl
      · have a5 : wnt (sT S) (sW S) g = 0 := by unfold wnt; rw [if_neg hgn]
        rw [a5] at a1
        constructor
        · intro z
          have z1 : hv.testBit (6 * g + d) = true := by
            cases hh : hv.testBit (6 * g + d) with
            | true => rfl
            | false => rw [hh] at z; simp at z
          have z2 := (a1.mp z1).1
          simp at z2
        · rintro ⟨y, -⟩
          exact absurd y hgn
    have e1 := pc_hcG hb 6 (Nat.le_refl _)
    have e2 := hcG_d (Pp := heP S k) (nd := sNd S) (m := 6 - sNd S) (fun g d hd y => by
      have := s13 g y.1
      have h2 : sW S g < 2 ^ d := Nat.lt_of_lt_of_le this (Nat.pow_le_pow_right (by omega) hd)
      have y2 := y.2.1
      rw [Nat.testBit_lt_two_pow h2] at y2
      cases y2) 6
    have e3 := hcG_cut (Pp := heP S k) (nd := sNd S) (n := tn (sT S)) (fun g d hg y => absurd y.1 (by omega)) (6 - tn (sT S))
    rw [show sNd S + (6 - sNd S) = 6 by omega] at e2
    rw [show tn (sT S) + (6 - tn (sT S)) = 6 by omega] at e3
    rw [show (36 : Nat) = 6 * 6 by rfl, e1, e2, e3]
    rfl
  rw [hoF_congr (tn (sT S)) key]
  exact ⟨rfl, rfl⟩
theorem holdR_ok {c N : Nat} {S : AS} {lq : Nat → Nat} {i r : Int} (hS : SOK c S) (hLk : lkR S N lq) (h : holdR S i r) : r = holdsS S i := by
  unfold holdR at h
  unfold holdsS
  by_cases q : 0 ≤ i ∧ i ≤ 1
  · rw [if_pos q] at h ⊢
    obtain ⟨a, b, h1, h2⟩ := h
    obtain ⟨e1, e2⟩ := hold_ok hS hLk h1
    rw [h2, e1, e2]
  · rw [if_neg q] at h ⊢
    exact h
def roF (mn : Nat → Int) : Nat → Int × Int
  | 0 => (0, -1)
  | g + 1 => if (roF mn g).2 < mn g then ((g : Int), mn g) else roF mn g
theorem ro_ho {mn : Nat → Int} (h : ∀ g, 0 ≤ mn g) : ∀ g, roF mn (g + 1) = hoF mn (g + 1)
  | 0 => by
    have h0 := h 0
    show (if (-1 : Int) < mn 0 then (((0 : Nat) : Int), mn 0) else (0, -1)) = (if (0 : Int) < mn 0 then (((0 : Nat) : Int), mn 0) else (0, 0))
    rw [if_pos (by omega)]
    split
    · rfl
    · rw [show mn 0 = 0 by omega]; rfl
  | g + 1 => by rw [roF, hoF, ro_ho h g]
theorem ro_r {mn : Nat → Int} {B : Int} (hB : 0 ≤ B) (h : ∀ g, 0 ≤ mn g ∧ mn g ≤ B) : ∀ g, -1 ≤ (roF mn g).2 ∧ (roF mn g).2 ≤ B ∧ 0 ≤ (roF mn g).1 ∧ (roF mn g).1 ≤ g
  | 0 => by simp only [roF]; omega
  | g + 1 => by
    have ih := ro_r hB h g
    have := h g
    rw [roF]
    split
    · dsimp only; omega
    · omega
theorem heN_r {c : Nat} {S : AS} (hS : SOK c S) (g : Nat) : 0 ≤ (heN S g : Int) ∧ (heN S g : Int) ≤ 36 := by
  have := hcG_le (Pp := heP S g) hS.2.1.2.1 (tn (sT S))
  have h2 := hS.2.1.2.2.2.2.2.1
  unfold heN
  omega
noncomputable def rcI (T : TB) (q g d : Nat) : Int := by classical exact if rcP T q g d then 1 else 0
theorem rcI_1 {T : TB} {q g d : Nat} (h : rcP T q g d) : rcI T q g d = 1 := by unfold rcI; rw [if_pos h]
theorem rcI_0 {T : TB} {q g d : Nat} (h : ¬ rcP T q g d) : rcI T q g d = 0 := by unfold rcI; rw [if_neg h]
theorem hold_Sk {M : Mem} {T : TB} {W : Nat → Nat} {who : Nat} (h : SkR M T W) : SkR (upM M 64 who 2) (holdT T who) W := by
  obtain ⟨⟨h0, h2⟩, ⟨o1, o2, o3, o4⟩, hg⟩ := h
  refine ⟨⟨by rw [upM_ne (by omega)]; exact h0, by rw [upM_ne (by omega)]; exact h2⟩, ⟨o1, o2, o3, fun g hgn => ⟨?_, (o4 g hgn).2⟩⟩, fun g hgn => ⟨?_, ?_, fun d hd => ?_⟩⟩
  · show ud (tk T) who 2 g ≤ 3
    unfold ud; split
    · omega
    · exact (o4 g hgn).1
  · show upM M 64 who 2 64 g = (ud (tk T) who 2 g : Int)
    unfold ud
    by_cases z : g = who
    · rw [if_pos z, z, upM_self]; rfl
    · rw [if_neg z, upM_nej z]; exact (hg g hgn).1
  · rw [upM_ne (by omega)]; exact (hg g hgn).2.1
  · rw [upM_ne (by omega)]; exact (hg g hgn).2.2 d hd
def heQ (c : Nat) (M : Mem) (P : PMem) (S : AS) (st : Nat) (v : Int) : Int → Mem → PMem → Prop := fun r M' P' => P = P' ∧ r = v ∧ MIv c M' P S ∧ M' 45 37 = (st : Int) + 1 ∧ (∀ b, M' 71 b = M 71 b) ∧ eqx mdX M M'
set_option maxHeartbeats 4000000 in
set_option maxRecDepth 100000 in
theorem c_X10_heldBy {l : Launch} {c : Nat} {S : AS} {N : Nat} {lq : Nat → Nat} {who st0 : Nat} {M : Mem} {P : PMem} (hS : SOK c S) (hK : TOK S) (hI : MIv c M P S) (hLk : lkR S N lq) (hc5 : c ≤ 530) (hwho : who < tn (sT S)) (h370 : M 45 37 = (st0 : Int)) (hst0 : st0 + 1 ≤ 16 * c) (hN : ∀ g d, g < tn (sT S) → d < sNd S → M 71 (6 * g + d) = rcI (sT S) (enc (sNow S).1) g d)  : CtI l yX10_heldBy cX10_heldBy 5 (some .int) 4 101 77 [vR 45, vI who] M P (heQ c M P S st0 (heN S who : Int)) := by
  refine Ct_of (own := RX10) (L := [vR 45, vI who, vX 1, vX 1, vX 1]) (by decide) rfl rfl (Nat.le_of_ble_eq_true rfl) (fun X Y hl hC hQ => ?_)
  obtain ⟨hGr, ⟨⟨g0, g1, g2, g3, g4⟩, g5⟩, ⟨g6, g7⟩, g8, g9, ⟨g10, g11⟩, g12⟩ := id hI
  obtain ⟨s1, ⟨s2, s3, s4, s5, s6, s7, s8⟩, ⟨s9, s10, s11, s12⟩, s13, s14, s15, s16, s17, s18⟩ := id hS
  obtain ⟨m1, m2, m3, m4⟩ := id s14
  have hX := lk_KX hS hLk (T' := sT S) rfl
  have hX2 := lk_KX hS hLk (T' := holdT (sT S) who) rfl
  have hlo := m1.lo
  obtain ⟨l0, hl0, hq⟩ := lk_at (c := c) hLk hlo m2
  obtain ⟨st, hst⟩ : ∃ st : Nat, M 45 37 = (st : Int) := ⟨(M 45 37).toNat, by have := g12.1; omega⟩
  have hstc : st ≤ 16 * c := by have := g12.2.1; omega
  have hst1 : st + 1 ≤ 16 * c := by omega
  refine G_al0 hC dX10_heldBy_0 ?_
  refine G_callVV hC (c_X10_sits hGr g0 s7) mv_X10_220 (by first | assumption | rfl) (by omega) (by decide) rfl (by decide) dX10_heldBy_1 rfl (Nat.le_of_ble_eq_true rfl) rfl (fun M1 P1 h1 => ?_)
  obtain ⟨rfl, v0⟩ := h1
  obtain ⟨v1, v2⟩ := si_R hS hK hI v0
  obtain ⟨v3, v4⟩ := siI_M hI v0
  have v37 : M1 45 37 = (st : Int) := by rw [v0.2.2 45 (by omega)]; exact hst
  refine G_al0 hC dX10_heldBy_4 ?_
  refine G_getR hC fl_X10_64 (by first | assumption | rfl) (by omega) (by first | assumption | exact hGr _ _ rfl) dX10_heldBy_5 ?_
  refine G_il1 hC dX10_heldBy_8 ?_
  refine G_iconst hC dX10_heldBy_9 ?_
  refine G_iastoreN (n := who) hC (by first | assumption | rfl) (by omega) (by omega) (by omega) dX10_heldBy_10 ?_
  refine G_al0 hC dX10_heldBy_11 ?_
  have hk2 : SkR (upM M1 64 who 2) (holdT (sT S) who) (sW S) := hold_Sk v1
  have hs2 : SpR (upM M1 64 who 2) (tn (holdT (sT S) who)) (sNow S).1 := fun g hg => by rw [upM_ne (by omega)]; exact v2 g hg
  have hm2 : qMk c (upM M1 64 who 2) := qMk_x v3.2.2.2.2.2.2 (upM_ne (by omega) 37) (fun b => upM_ne (by omega) b)
  have h372 : upM M1 64 who 2 45 37 = (st : Int) := by rw [upM_ne (by omega)]; exact v37
  refine G_callVV hC (c_X10_findAll hGr hk2 hX2 hs2 hlo hl0 hq hm2 h372 (by omega)) mv_X10_272 (by first | assumption | rfl) (by omega) (by decide) rfl (by decide) dX10_heldBy_12 rfl (Nat.le_of_ble_eq_true rfl) rfl (fun M12 P12 h12 => ?_)
  skip
  obtain ⟨rfl, fa1, fa2⟩ := h12
  have hMI2 : MIv c (upM M1 64 who 2) P S := MIv_x v3 (fun a h1 h2 b => upM_ne (by omega) b) (fun b hb => upM_ne (by omega) b) hm2
  obtain ⟨w1, w2⟩ := MIv_l (c' := c) hMI2 fa2 fa1 (by omega)
  obtain ⟨L, hLe, hFd, hFm, hFs, hFh, hFl, hFf, hFg⟩ := FB_all hX2 hl0
  have f37 : M12 45 37 = (st : Int) + 1 := by rw [fa1.1.2.1]; omega
  rw [← hq, ← hLe] at fa1
  have hex : eqx mdX M M12 := (v4.trans (eqx_up (S := mdX) (k := 64) (by unfold mdX; omega))).trans w2
  have h71 : ∀ b, M12 71 b = M 71 b := fun b => by rw [fa2.1 71 (by omega) (by omega) (by omega), upM_ne (by omega)]; exact v0.2.2 71 (by omega) b
  have n0 : M12 45 0 = (tn (sT S) : Int) := w1.2.1.1.1
  have n1 : M12 45 1 = (sNd S : Int) := w1.2.1.1.2.1
  have hlp : ∀ (c2 g : Nat) (gv nv2 : Int) (x4 : AV), g + c2 = tn (sT S) → gv = (g : Int) → nv2 = (hcG (heP S who) (sNd S) g : Int) → G X Y 19 [vR 45, vI who, vI nv2, vI gv, x4] [] M12 P := by
    intro c2
    induction c2 with
    | zero =>
      intro g gv nv2 x4 hgc e1 e2
      subst e1; subst e2
      have hgn : g = tn (sT S) := by omega
      rw [hgn]
      refine G_il3 hC dX10_heldBy_19 ?_
      refine G_al0 hC dX10_heldBy_20 ?_
      refine G_getI hC fl_X10_116 (by first | assumption | rfl) (by omega) dX10_heldBy_21 ?_
      rw [n0]
      refine G_icmp_ge (tgt := 101) hC dX10_heldBy_24 (by decide) (by omega) (by omega) (fun c24 => ?_) (fun c24 => ?_)
      · refine G_il2 hC dX10_heldBy_101 ?_
        exact G_iret hC hQ dX10_heldBy_102 ⟨_, rfl, rfl, rfl, w1, by omega, h71, hex⟩
      · exact absurd c24 (by omega)
    | succ c2 ih =>
      intro g gv nv2 x4 hgc e1 e2
      subst e1; subst e2
      have hgl : g < tn (sT S) := by omega
      have hgle := hcG_le (Pp := heP S who) s3 g
      have zw : M12 47 g = (sW S g : Int) := (w1.2.1.2 g hgl).2.1
      have hw6 := sW_lt hS g hgl
      have hin : ∀ (c3 d : Nat) (dv nv3 : Int), d + c3 = sNd S → dv = (d : Int) → nv3 = (hcG (heP S who) (sNd S) g : Int) + (hcD (heP S who g) d : Int) → G X Y 30 [vR 45, vI who, vI nv3, vI g, vI dv] [] M12 P := by
        intro c3
        induction c3 with
        | zero =>
          intro d dv nv3 hdc f1 f2
          subst f1; subst f2
          have hdn : d = sNd S := by omega
          subst hdn
          refine G_il4 hC dX10_heldBy_30 ?_
          refine G_al0 hC dX10_heldBy_32 ?_
          refine G_getI hC fl_X10_123 (by first | assumption | rfl) (by omega) dX10_heldBy_33 ?_
          rw [n1]
          refine G_icmp_ge (tgt := 95) hC dX10_heldBy_36 (by decide) (by omega) (by omega) (fun c36 => ?_) (fun c36 => ?_)
          · refine G_inc3 hC dX10_heldBy_95 rfl ?_
            refine G_goto (tgt := 19) hC dX10_heldBy_98 (by decide) ?_
            exact ih (g + 1) _ _ _ (by omega) (by omega) (by show _ = ((hcG (heP S who) (sNd S) g + hcD (heP S who g) (sNd S) : Nat) : Int); omega)
          · exact absurd c36 (by omega)
        | succ c3 ih2 =>
          intro d dv nv3 hdc f1 f2
          subst f1; subst f2
          have hdle := hcD_le (Pp := heP S who g) d
          have hbt := bit_t (d := d) hw6 (by omega)
          have hmr := mnL_r (Pd := fun x => dgf x.1 g = d) hFf L.length
          have hnd := nd_mn (g := g) (d := d) hLe hFs
          have hrc := nd_rc (T := holdT (sT S) who) (q := lq l0) (g := g) (d := d)
          rw [← hnd] at hrc
          obtain ⟨ndv, hndv⟩ : ∃ v, v = mnL (fun x => dgf x.1 g = d) L L.length := ⟨_, rfl⟩
          rw [← hndv] at hmr hrc
          rw [hq] at hrc
          have zn : M12 71 (6 * g + d) = rcI (sT S) (enc (sNow S).1) g d := by rw [h71]; exact hN g d hgl (by omega)
          by_cases hb : (sW S g).testBit d = true
          · rw [if_pos hb] at hbt
            by_cases hr : rcP (sT S) (enc (sNow S).1) g d
            · rw [rcI_1 hr] at zn
              by_cases ho : rcP (holdT (sT S) who) (enc (sNow S).1) g d
              · have hne : ¬ ndv = -4 := fun z => (hrc.mp z) ho
                have hs := hcD_0 (Pp := heP S who g) (d := d) (fun y => y.2.2.2 ho)
                refine G_il4 hC dX10_heldBy_30 ?_
                refine G_al0 hC dX10_heldBy_32 ?_
                refine G_getI hC fl_X10_123 (by first | assumption | rfl) (by omega) dX10_heldBy_33 ?_
                rw [n1]
                refine G_icmp_ge (tgt := 95) hC dX10_heldBy_36 (by decide) (by omega) (by omega) (fun c36 => ?_) (fun c36 => ?_)
                · exact absurd c36 (by omega)
                · refine G_il2 hC dX10_heldBy_39 ?_
                  refine G_al0 hC dX10_heldBy_40 ?_
                  refine G_getR hC fl_X10_13 (by first | assumption | rfl) (by omega) (by first | assumption | exact hGr _ _ rfl) dX10_heldBy_41 ?_
                  refine G_il3 hC dX10_heldBy_44 ?_
                  refine G_ialoadN (n := g) hC (by first | assumption | rfl) (by omega) (by omega) (by omega) dX10_heldBy_45 ?_
                  rw [zw]
                  refine G_il4 hC dX10_heldBy_46 ?_
                  refine G_ishr hC dX10_heldBy_48 ?_
                  refine G_iconst hC dX10_heldBy_49 ?_
                  refine G_iand hC dX10_heldBy_50 ?_
                  rw [hbt]
                  refine G_iconst hC dX10_heldBy_51 ?_
                  refine G_icmp_ne (tgt := 86) hC dX10_heldBy_52 (by decide) (by omega) (by omega) (fun c52 => ?_) (fun c52 => ?_)
                  · exact absurd rfl c52
                  · refine G_al0 hC dX10_heldBy_55 ?_
                    refine G_getR hC fl_X10_86 (by first | assumption | rfl) (by omega) (by first | assumption | exact hGr _ _ rfl) dX10_heldBy_56 ?_
                    refine G_bipush hC dX10_heldBy_59 (by decide) ?_
                    refine G_il3 hC dX10_heldBy_61 ?_
                    refine G_imul hC dX10_heldBy_62 ?_
                    refine G_il4 hC dX10_heldBy_63 ?_
                    refine G_iadd hC dX10_heldBy_65 ?_
                    refine G_zaloadN (n := 6 * g + d) hC (by first | assumption | rfl) (by omega) (by omega) (by omega) dX10_heldBy_66 ?_
                    rw [zn]
                    refine G_if_eq (tgt := 86) hC dX10_heldBy_67 (by decide) (by omega) (fun c67 => ?_) (fun c67 => ?_)
                    · exact absurd c67 (by omega)
                    · refine G_al0 hC dX10_heldBy_70 ?_
                      refine G_il3 hC dX10_heldBy_71 ?_
                      refine G_il4 hC dX10_heldBy_72 ?_
                      refine G_callVI hC (c_X10_needOf (i := g) (d := d) hGr hX2 fa1 hFm hFf hgl (by omega)) mv_X10_275 (by first | assumption | rfl) (by omega) (by decide) rfl (by decide) dX10_heldBy_74 rfl (Nat.le_of_ble_eq_true rfl) rfl (fun z74 M74 P74 h74 => ?_)
                      obtain ⟨rfl, rfl, rfl⟩ := h74
                      rw [← hndv]
                      refine G_bipush hC dX10_heldBy_77 (by decide) ?_
                      refine G_icmp_ne (tgt := 86) hC dX10_heldBy_79 (by decide) (by omega) (by omega) (fun c79 => ?_) (fun c79 => ?_)
                      · refine G_iconst hC dX10_heldBy_86 ?_
                        refine G_iadd hC dX10_heldBy_87 ?_
                        refine G_is2 hC dX10_heldBy_88 rfl ?_
                        refine G_inc4 hC dX10_heldBy_89 rfl ?_
                        refine G_goto (tgt := 30) hC dX10_heldBy_92 (by decide) ?_
                        exact ih2 (d + 1) _ _ (by omega) (by omega) (by rw [hs]; omega)
                      · exact absurd c79 hne
              · have hne : ndv = -4 := hrc.mpr ho
                have hs := hcD_1 (Pp := heP S who g) (d := d) ⟨hgl, hb, hr, ho⟩
                refine G_il4 hC dX10_heldBy_30 ?_
                refine G_al0 hC dX10_heldBy_32 ?_
                refine G_getI hC fl_X10_123 (by first | assumption | rfl) (by omega) dX10_heldBy_33 ?_
                rw [n1]
                refine G_icmp_ge (tgt := 95) hC dX10_heldBy_36 (by decide) (by omega) (by omega) (fun c36 => ?_) (fun c36 => ?_)
                · exact absurd c36 (by omega)
                · refine G_il2 hC dX10_heldBy_39 ?_
                  refine G_al0 hC dX10_heldBy_40 ?_
                  refine G_getR hC fl_X10_13 (by first | assumption | rfl) (by omega) (by first | assumption | exact hGr _ _ rfl) dX10_heldBy_41 ?_
                  refine G_il3 hC dX10_heldBy_44 ?_
                  refine G_ialoadN (n := g) hC (by first | assumption | rfl) (by omega) (by omega) (by omega) dX10_heldBy_45 ?_
                  rw [zw]
                  refine G_il4 hC dX10_heldBy_46 ?_
                  refine G_ishr hC dX10_heldBy_48 ?_
                  refine G_iconst hC dX10_heldBy_49 ?_
                  refine G_iand hC dX10_heldBy_50 ?_
                  rw [hbt]
                  refine G_iconst hC dX10_heldBy_51 ?_
                  refine G_icmp_ne (tgt := 86) hC dX10_heldBy_52 (by decide) (by omega) (by omega) (fun c52 => ?_) (fun c52 => ?_)
                  · exact absurd rfl c52
                  · refine G_al0 hC dX10_heldBy_55 ?_
                    refine G_getR hC fl_X10_86 (by first | assumption | rfl) (by omega) (by first | assumption | exact hGr _ _ rfl) dX10_heldBy_56 ?_
                    refine G_bipush hC dX10_heldBy_59 (by decide) ?_
                    refine G_il3 hC dX10_heldBy_61 ?_
                    refine G_imul hC dX10_heldBy_62 ?_
                    refine G_il4 hC dX10_heldBy_63 ?_
                    refine G_iadd hC dX10_heldBy_65 ?_
                    refine G_zaloadN (n := 6 * g + d) hC (by first | assumption | rfl) (by omega) (by omega) (by omega) dX10_heldBy_66 ?_
                    rw [zn]
                    refine G_if_eq (tgt := 86) hC dX10_heldBy_67 (by decide) (by omega) (fun c67 => ?_) (fun c67 => ?_)
                    · exact absurd c67 (by omega)
                    · refine G_al0 hC dX10_heldBy_70 ?_
                      refine G_il3 hC dX10_heldBy_71 ?_
                      refine G_il4 hC dX10_heldBy_72 ?_
                      refine G_callVI hC (c_X10_needOf (i := g) (d := d) hGr hX2 fa1 hFm hFf hgl (by omega)) mv_X10_275 (by first | assumption | rfl) (by omega) (by decide) rfl (by decide) dX10_heldBy_74 rfl (Nat.le_of_ble_eq_true rfl) rfl (fun z74 M74 P74 h74 => ?_)
                      obtain ⟨rfl, rfl, rfl⟩ := h74
                      rw [← hndv]
                      refine G_bipush hC dX10_heldBy_77 (by decide) ?_
                      refine G_icmp_ne (tgt := 86) hC dX10_heldBy_79 (by decide) (by omega) (by omega) (fun c79 => ?_) (fun c79 => ?_)
                      · exact absurd hne c79
                      · refine G_iconst hC dX10_heldBy_82 ?_
                        refine G_goto (tgt := 87) hC dX10_heldBy_83 (by decide) ?_
                        refine G_iadd hC dX10_heldBy_87 ?_
                        refine G_is2 hC dX10_heldBy_88 rfl ?_
                        refine G_inc4 hC dX10_heldBy_89 rfl ?_
                        refine G_goto (tgt := 30) hC dX10_heldBy_92 (by decide) ?_
                        exact ih2 (d + 1) _ _ (by omega) (by omega) (by rw [hs]; omega)
            · rw [rcI_0 hr] at zn
              have hs := hcD_0 (Pp := heP S who g) (d := d) (fun y => hr y.2.2.1)
              refine G_il4 hC dX10_heldBy_30 ?_
              refine G_al0 hC dX10_heldBy_32 ?_
              refine G_getI hC fl_X10_123 (by first | assumption | rfl) (by omega) dX10_heldBy_33 ?_
              rw [n1]
              refine G_icmp_ge (tgt := 95) hC dX10_heldBy_36 (by decide) (by omega) (by omega) (fun c36 => ?_) (fun c36 => ?_)
              · exact absurd c36 (by omega)
              · refine G_il2 hC dX10_heldBy_39 ?_
                refine G_al0 hC dX10_heldBy_40 ?_
                refine G_getR hC fl_X10_13 (by first | assumption | rfl) (by omega) (by first | assumption | exact hGr _ _ rfl) dX10_heldBy_41 ?_
                refine G_il3 hC dX10_heldBy_44 ?_
                refine G_ialoadN (n := g) hC (by first | assumption | rfl) (by omega) (by omega) (by omega) dX10_heldBy_45 ?_
                rw [zw]
                refine G_il4 hC dX10_heldBy_46 ?_
                refine G_ishr hC dX10_heldBy_48 ?_
                refine G_iconst hC dX10_heldBy_49 ?_
                refine G_iand hC dX10_heldBy_50 ?_
                rw [hbt]
                refine G_iconst hC dX10_heldBy_51 ?_
                refine G_icmp_ne (tgt := 86) hC dX10_heldBy_52 (by decide) (by omega) (by omega) (fun c52 => ?_) (fun c52 => ?_)
                · exact absurd rfl c52
                · refine G_al0 hC dX10_heldBy_55 ?_
                  refine G_getR hC fl_X10_86 (by first | assumption | rfl) (by omega) (by first | assumption | exact hGr _ _ rfl) dX10_heldBy_56 ?_
                  refine G_bipush hC dX10_heldBy_59 (by decide) ?_
                  refine G_il3 hC dX10_heldBy_61 ?_
                  refine G_imul hC dX10_heldBy_62 ?_
                  refine G_il4 hC dX10_heldBy_63 ?_
                  refine G_iadd hC dX10_heldBy_65 ?_
                  refine G_zaloadN (n := 6 * g + d) hC (by first | assumption | rfl) (by omega) (by omega) (by omega) dX10_heldBy_66 ?_
                  rw [zn]
                  refine G_if_eq (tgt := 86) hC dX10_heldBy_67 (by decide) (by omega) (fun c67 => ?_) (fun c67 => ?_)
                  · refine G_iconst hC dX10_heldBy_86 ?_
                    refine G_iadd hC dX10_heldBy_87 ?_
                    refine G_is2 hC dX10_heldBy_88 rfl ?_
                    refine G_inc4 hC dX10_heldBy_89 rfl ?_
                    refine G_goto (tgt := 30) hC dX10_heldBy_92 (by decide) ?_
                    exact ih2 (d + 1) _ _ (by omega) (by omega) (by rw [hs]; omega)
                  · exact absurd rfl c67
          · rw [if_neg hb] at hbt
            have hs := hcD_0 (Pp := heP S who g) (d := d) (fun y => hb y.2.1)
            refine G_il4 hC dX10_heldBy_30 ?_
            refine G_al0 hC dX10_heldBy_32 ?_
            refine G_getI hC fl_X10_123 (by first | assumption | rfl) (by omega) dX10_heldBy_33 ?_
            rw [n1]
            refine G_icmp_ge (tgt := 95) hC dX10_heldBy_36 (by decide) (by omega) (by omega) (fun c36 => ?_) (fun c36 => ?_)
            · exact absurd c36 (by omega)
            · refine G_il2 hC dX10_heldBy_39 ?_
              refine G_al0 hC dX10_heldBy_40 ?_
              refine G_getR hC fl_X10_13 (by first | assumption | rfl) (by omega) (by first | assumption | exact hGr _ _ rfl) dX10_heldBy_41 ?_
              refine G_il3 hC dX10_heldBy_44 ?_
              refine G_ialoadN (n := g) hC (by first | assumption | rfl) (by omega) (by omega) (by omega) dX10_heldBy_45 ?_
              rw [zw]
              refine G_il4 hC dX10_heldBy_46 ?_
              refine G_ishr hC dX10_heldBy_48 ?_
              refine G_iconst hC dX10_heldBy_49 ?_
              refine G_iand hC dX10_heldBy_50 ?_
              rw [hbt]
              refine G_iconst hC dX10_heldBy_51 ?_
              refine G_icmp_ne (tgt := 86) hC dX10_heldBy_52 (by decide) (by omega) (by omega) (fun c52 => ?_) (fun c52 => ?_)
              · refine G_iconst hC dX10_heldBy_86 ?_
                refine G_iadd hC dX10_heldBy_87 ?_
                refine G_is2 hC dX10_heldBy_88 rfl ?_
                refine G_inc4 hC dX10_heldBy_89 rfl ?_
                refine G_goto (tgt := 30) hC dX10_heldBy_92 (by decide) ?_
                exact ih2 (d + 1) _ _ (by omega) (by omega) (by rw [hs]; omega)
              · exact absurd c52 (by omega)
      refine G_il3 hC dX10_heldBy_19 ?_
      refine G_al0 hC dX10_heldBy_20 ?_
      refine G_getI hC fl_X10_116 (by first | assumption | rfl) (by omega) dX10_heldBy_21 ?_
      rw [n0]
      refine G_icmp_ge (tgt := 101) hC dX10_heldBy_24 (by decide) (by omega) (by omega) (fun c24 => ?_) (fun c24 => ?_)
      · exact absurd c24 (by omega)
      · refine G_iconst hC dX10_heldBy_27 ?_
        refine G_is4 hC dX10_heldBy_28 rfl ?_
        exact hin (sNd S) 0 _ _ (by omega) rfl (by show _ = _ + ((0 : Nat) : Int); omega)
  refine G_iconst hC dX10_heldBy_15 ?_
  refine G_is2 hC dX10_heldBy_16 rfl ?_
  refine G_iconst hC dX10_heldBy_17 ?_
  refine G_is3 hC dX10_heldBy_18 rfl ?_
  exact hlp (tn (sT S)) 0 _ _ _ (by omega) rfl rfl
set_option maxHeartbeats 4000000 in
set_option maxRecDepth 100000 in
theorem c_X10_holdsUp {l : Launch} {c : Nat} {S : AS} {N : Nat} {lq : Nat → Nat} {i : Int} {M : Mem} {P : PMem} (hS : SOK c S) (hK : TOK S) (hI : MIv c M P S) (hLk : lkR S N lq) (hc5 : c ≤ 520) (hi : i32r i)  : CtI l yX10_holdsUp cX10_holdsUp 6 (some .int) 5 125 77 [vR 45, vI i] M P (mR (c + 1) M P S (holdsS S i)) := by
  refine Ct_of (own := RX10) (L := [vR 45, vI i, vX 1, vX 1, vX 1, vX 1]) (by decide) rfl rfl (Nat.le_of_ble_eq_true rfl) (fun X Y hl hC hQ => ?_)
  obtain ⟨hGr, ⟨⟨g0, g1, g2, g3, g4⟩, g5⟩, ⟨g6, g7⟩, g8, g9, ⟨g10, g11⟩, g12⟩ := id hI
  obtain ⟨s1, ⟨s2, s3, s4, s5, s6, s7, s8⟩, ⟨s9, s10, s11, s12⟩, s13, s14, s15, s16, s17, s18⟩ := id hS
  obtain ⟨m1, m2, m3, m4⟩ := id s14
  have hX := lk_KX hS hLk (T' := sT S) rfl
  have hlo := m1.lo
  obtain ⟨l0, hl0, hq⟩ := lk_at (c := c) hLk hlo m2
  obtain ⟨st, hst⟩ : ∃ st : Nat, M 45 37 = (st : Int) := ⟨(M 45 37).toNat, by have := g12.1; omega⟩
  have hstc : st ≤ 16 * c := by have := g12.2.1; omega
  unfold i32r at *
  by_cases hy : 0 ≤ i ∧ i ≤ 1
  · refine G_il1 hC dX10_holdsUp_0 ?_
    refine G_iconst hC dX10_holdsUp_1 ?_
    refine G_iconst hC dX10_holdsUp_2 ?_
    refine G_callSI hC (c_in1 (by unfold i32r; omega) (by unfold i32r; omega) (by unfold i32r; omega) hy) ms_X10_119 (by decide) rfl (by decide) dX10_holdsUp_3 rfl (Nat.le_of_ble_eq_true rfl) rfl (fun z3 M3 P3 h3 => ?_)
    obtain ⟨rfl, rfl, rfl⟩ := h3
    refine G_if_ne (tgt := 11) hC dX10_holdsUp_6 (by decide) (by omega) (fun c6 => ?_) (fun c6 => ?_)
    · refine G_al0 hC dX10_holdsUp_11 ?_
      refine G_callVV hC (c_X10_sits hGr g0 s7) mv_X10_220 (by first | assumption | rfl) (by omega) (by decide) rfl (by decide) dX10_holdsUp_12 rfl (Nat.le_of_ble_eq_true rfl) rfl (fun M12 P12 h12 => ?_)
      obtain ⟨rfl, v0⟩ := h12
      obtain ⟨v1, v2⟩ := si_R hS hK hI v0
      obtain ⟨v3, v4⟩ := siI_M hI v0
      have v37 : M12 45 37 = (st : Int) := by rw [v0.2.2 45 (by omega)]; exact hst
      refine G_al0 hC dX10_holdsUp_15 ?_
      refine G_callVV hC (c_X10_findAll hGr v1 hX v2 hlo hl0 hq v3.2.2.2.2.2.2 v37 (by omega)) mv_X10_272 (by first | assumption | rfl) (by omega) (by decide) rfl (by decide) dX10_holdsUp_16 rfl (Nat.le_of_ble_eq_true rfl) rfl (fun M16 P16 h16 => ?_)
      obtain ⟨rfl, fa1, fa2⟩ := h16
      obtain ⟨w1, w2⟩ := MIv_l (c' := c + 1) v3 fa2 fa1 (by omega)
      obtain ⟨L, hLe, hFd, hFm, hFs, hFh, hFl, hFf, hFg⟩ := FB_all hX hl0
      rw [← hq, ← hLe] at fa1
      have hex : eqx mdX M M16 := v4.trans w2
      have hsts : st ≤ 16 * c := hstc
      have h16 : M16 45 37 = (st : Int) + 1 := by have := fa1.1.2.1; omega
      have hmn : ∀ g, 0 ≤ (fun g => (heN S g : Int)) g ∧ (fun g => (heN S g : Int)) g ≤ 36 := fun g => heN_r hS g
      have h85 : ∀ (c2 g : Nat) (gv bv mv : Int) (x5 : AV) (M2 : Mem), g + c2 = tn (sT S) → gv = (g : Int) → bv = (roF (fun g => (heN S g : Int)) g).1 → mv = (roF (fun g => (heN S g : Int)) g).2 → MIv (c + 1) M2 P S → M2 45 37 = (st : Int) + 1 + g → (∀ g d, g < tn (sT S) → d < sNd S → M2 71 (6 * g + d) = rcI (sT S) (enc (sNow S).1) g d) → eqx mdX M M2 → G X Y 85 [vR 45, vI i, vI bv, vI mv, vI gv, x5] [] M2 P := by
        intro c2
        induction c2 with
        | zero =>
          intro g gv bv mv x5 M2 hgc e1 e2 e3 hMI h37 hN hE
          have hgn : g = tn (sT S) := by omega
          have n0 : M2 45 0 = (g : Int) := by rw [hgn]; exact hMI.2.1.1.1
          obtain ⟨g', hg'⟩ : ∃ g', g = g' + 1 := ⟨g - 1, by omega⟩
          have hro := ro_ho (fun g => (hmn g).1) g'
          rw [← hg'] at hro
          rw [hro, hgn] at e2 e3
          subst e1
          have hsi : holdsS S i = if i = 0 then bv else mv := by unfold holdsS; rw [if_pos hy, e2, e3]
          refine G_il4 hC dX10_holdsUp_85 ?_
          refine G_al0 hC dX10_holdsUp_87 ?_
          refine G_getI hC fl_X10_116 (by first | assumption | rfl) (by omega) dX10_holdsUp_88 ?_
          rw [n0]
          refine G_icmp_ge (tgt := 134) hC dX10_holdsUp_91 (by decide) (by omega) (by omega) (fun c91 => ?_) (fun c91 => ?_)
          · refine G_il1 hC dX10_holdsUp_134 ?_
            refine G_if_ne (tgt := 142) hC dX10_holdsUp_135 (by decide) (by omega) (fun c135 => ?_) (fun c135 => ?_)
            · refine G_il3 hC dX10_holdsUp_142 ?_
              exact G_iret hC hQ dX10_holdsUp_143 ⟨_, rfl, rfl, by rw [hsi]; first | (rw [if_pos (by omega)]; done) | (rw [if_neg (by omega)]; done), hMI, hE⟩
            · refine G_il2 hC dX10_holdsUp_138 ?_
              refine G_goto (tgt := 143) hC dX10_holdsUp_139 (by decide) ?_
              exact G_iret hC hQ dX10_holdsUp_143 ⟨_, rfl, rfl, by rw [hsi]; first | (rw [if_pos (by omega)]; done) | (rw [if_neg (by omega)]; done), hMI, hE⟩
          · exact absurd c91 (by omega)
        | succ c2 ih =>
          intro g gv bv mv x5 M2 hgc e1 e2 e3 hMI h37 hN hE
          subst e1; subst e2; subst e3
          have n0 : M2 45 0 = (tn (sT S) : Int) := hMI.2.1.1.1
          have hror := ro_r (by omega) hmn g
          have hv := heN_r hS g
          by_cases hgt : (roF (fun g => (heN S g : Int)) g).2 < (heN S g : Int)
          · have hro : roF (fun g => (heN S g : Int)) (g + 1) = ((g : Int), (heN S g : Int)) := by rw [roF, if_pos hgt]
            refine G_il4 hC dX10_holdsUp_85 ?_
            refine G_al0 hC dX10_holdsUp_87 ?_
            refine G_getI hC fl_X10_116 (by first | assumption | rfl) (by omega) dX10_holdsUp_88 ?_
            rw [n0]
            refine G_icmp_ge (tgt := 134) hC dX10_holdsUp_91 (by decide) (by omega) (by omega) (fun c91 => ?_) (fun c91 => ?_)
            · exact absurd c91 (by omega)
            · refine G_al0 hC dX10_holdsUp_94 ?_
              refine G_il4 hC dX10_holdsUp_95 ?_
              refine G_callVI hC (c_X10_heldBy (c := c + 1) (who := g) (st0 := st + 1 + g) (hS.mono (by omega)) hK hMI hLk (by omega) (by omega) (by omega) (by omega) hN) mv_X10_284 (by first | assumption | rfl) (by omega) (by decide) rfl (by decide) dX10_holdsUp_97 rfl (Nat.le_of_ble_eq_true rfl) rfl (fun z97 M97 P97 h97 => ?_)
              obtain ⟨rfl, rfl, mi, q37, q71, qx⟩ := h97
              refine G_is5 hC dX10_holdsUp_100 rfl ?_
              refine G_il5 hC dX10_holdsUp_102 ?_
              refine G_il3 hC dX10_holdsUp_104 ?_
              refine G_icmp_le (tgt := 113) hC dX10_holdsUp_105 (by decide) (by omega) (by omega) (fun c105 => ?_) (fun c105 => ?_)
              · exact absurd c105 (by omega)
              · refine G_il4 hC dX10_holdsUp_108 ?_
                refine G_goto (tgt := 114) hC dX10_holdsUp_110 (by decide) ?_
                refine G_is2 hC dX10_holdsUp_114 rfl ?_
                refine G_il5 hC dX10_holdsUp_115 ?_
                refine G_il3 hC dX10_holdsUp_117 ?_
                refine G_icmp_le (tgt := 126) hC dX10_holdsUp_118 (by decide) (by omega) (by omega) (fun c118 => ?_) (fun c118 => ?_)
                · exact absurd c118 (by omega)
                · refine G_il5 hC dX10_holdsUp_121 ?_
                  refine G_goto (tgt := 127) hC dX10_holdsUp_123 (by decide) ?_
                  refine G_is3 hC dX10_holdsUp_127 rfl ?_
                  refine G_inc4 hC dX10_holdsUp_128 rfl ?_
                  refine G_goto (tgt := 85) hC dX10_holdsUp_131 (by decide) ?_
                  exact ih (g + 1) _ _ _ _ _ (by omega) (by omega) (by rw [hro]) (by rw [hro]) mi (by omega) (fun g d h1 h2 => by rw [q71]; exact hN g d h1 h2) (hE.trans qx)
          · have hro : roF (fun g => (heN S g : Int)) (g + 1) = roF (fun g => (heN S g : Int)) g := by rw [roF, if_neg hgt]
            refine G_il4 hC dX10_holdsUp_85 ?_
            refine G_al0 hC dX10_holdsUp_87 ?_
            refine G_getI hC fl_X10_116 (by first | assumption | rfl) (by omega) dX10_holdsUp_88 ?_
            rw [n0]
            refine G_icmp_ge (tgt := 134) hC dX10_holdsUp_91 (by decide) (by omega) (by omega) (fun c91 => ?_) (fun c91 => ?_)
            · exact absurd c91 (by omega)
            · refine G_al0 hC dX10_holdsUp_94 ?_
              refine G_il4 hC dX10_holdsUp_95 ?_
              refine G_callVI hC (c_X10_heldBy (c := c + 1) (who := g) (st0 := st + 1 + g) (hS.mono (by omega)) hK hMI hLk (by omega) (by omega) (by omega) (by omega) hN) mv_X10_284 (by first | assumption | rfl) (by omega) (by decide) rfl (by decide) dX10_holdsUp_97 rfl (Nat.le_of_ble_eq_true rfl) rfl (fun z97 M97 P97 h97 => ?_)
              obtain ⟨rfl, rfl, mi, q37, q71, qx⟩ := h97
              refine G_is5 hC dX10_holdsUp_100 rfl ?_
              refine G_il5 hC dX10_holdsUp_102 ?_
              refine G_il3 hC dX10_holdsUp_104 ?_
              refine G_icmp_le (tgt := 113) hC dX10_holdsUp_105 (by decide) (by omega) (by omega) (fun c105 => ?_) (fun c105 => ?_)
              · refine G_il2 hC dX10_holdsUp_113 ?_
                refine G_is2 hC dX10_holdsUp_114 rfl ?_
                refine G_il5 hC dX10_holdsUp_115 ?_
                refine G_il3 hC dX10_holdsUp_117 ?_
                refine G_icmp_le (tgt := 126) hC dX10_holdsUp_118 (by decide) (by omega) (by omega) (fun c118 => ?_) (fun c118 => ?_)
                · refine G_il3 hC dX10_holdsUp_126 ?_
                  refine G_is3 hC dX10_holdsUp_127 rfl ?_
                  refine G_inc4 hC dX10_holdsUp_128 rfl ?_
                  refine G_goto (tgt := 85) hC dX10_holdsUp_131 (by decide) ?_
                  exact ih (g + 1) _ _ _ _ _ (by omega) (by omega) (by rw [hro]) (by rw [hro]) mi (by omega) (fun g d h1 h2 => by rw [q71]; exact hN g d h1 h2) (hE.trans qx)
                · exact absurd c118 (by omega)
              · exact absurd c105 (by omega)
      have h21 : ∀ (c2 g : Nat) (gv : Int) (x3 x4 x5 : AV) (M2 : Mem), g + c2 = tn (sT S) → gv = (g : Int) → (∀ a, a ≠ 71 → ∀ b, M2 a b = M16 a b) → (∀ g' d', g' < g → d' < sNd S → M2 71 (6 * g' + d') = rcI (sT S) (enc (sNow S).1) g' d') → G X Y 21 [vR 45, vI i, vI gv, x3, x4, x5] [] M2 P := by
        intro c2
        induction c2 with
        | zero =>
          intro g gv x3 x4 x5 M2 hgc e1 hE hN
          subst e1
          have hgn : g = tn (sT S) := by omega
          have n0 : M2 45 0 = (g : Int) := by rw [hE 45 (by omega), hgn]; exact w1.2.1.1.1
          have hMI2 : MIv (c + 1) M2 P S := MIv_x w1 (fun a h1 h2 b => hE a (by omega) b) (fun b hb => hE 45 (by omega) b) (qMk_x w1.2.2.2.2.2.2 (hE 45 (by omega) 37) (hE 67 (by omega)))
          have hE2 : eqx mdX M M2 := hex.trans (fun a ha b => hE a (fun q => ha (by unfold mdX; omega)) b)
          refine G_il2 hC dX10_holdsUp_21 ?_
          refine G_al0 hC dX10_holdsUp_22 ?_
          refine G_getI hC fl_X10_116 (by first | assumption | rfl) (by omega) dX10_holdsUp_23 ?_
          rw [n0]
          refine G_icmp_ge (tgt := 78) hC dX10_holdsUp_26 (by decide) (by omega) (by omega) (fun c26 => ?_) (fun c26 => ?_)
          · refine G_iconst hC dX10_holdsUp_78 ?_
            refine G_is2 hC dX10_holdsUp_79 rfl ?_
            refine G_iconst hC dX10_holdsUp_80 ?_
            refine G_is3 hC dX10_holdsUp_81 rfl ?_
            refine G_iconst hC dX10_holdsUp_82 ?_
            refine G_is4 hC dX10_holdsUp_83 rfl ?_
            exact h85 (tn (sT S)) 0 _ _ _ _ _ (by omega) rfl rfl rfl hMI2 (by rw [hE 45 (by omega), h16]; rfl) (fun g d h1 h2 => hN g d (by omega) h2) hE2
          · exact absurd c26 (by omega)
        | succ c2 ih =>
          intro g gv x3 x4 x5 M2 hgc e1 hE hN
          subst e1
          have hgl : g < tn (sT S) := by omega
          have n0 : M2 45 0 = (tn (sT S) : Int) := by rw [hE 45 (by omega)]; exact w1.2.1.1.1
          have hin : ∀ (c3 d : Nat) (dv : Int) (M3 : Mem), d + c3 = sNd S → dv = (d : Int) → (∀ a, a ≠ 71 → ∀ b, M3 a b = M16 a b) → (∀ g' d', g' < g → d' < sNd S → M3 71 (6 * g' + d') = rcI (sT S) (enc (sNow S).1) g' d') → (∀ d', d' < d → M3 71 (6 * g + d') = rcI (sT S) (enc (sNow S).1) g d') → G X Y 31 [vR 45, vI i, vI g, vI dv, x4, x5] [] M3 P := by
            intro c3
            induction c3 with
            | zero =>
              intro d dv M3 hdc f1 hE3 hN3 hD3
              subst f1
              have hdn : d = sNd S := by omega
              subst hdn
              have n1 : M3 45 1 = (sNd S : Int) := by rw [hE3 45 (by omega)]; exact w1.2.1.1.2.1
              refine G_il3 hC dX10_holdsUp_31 ?_
              refine G_al0 hC dX10_holdsUp_32 ?_
              refine G_getI hC fl_X10_123 (by first | assumption | rfl) (by omega) dX10_holdsUp_33 ?_
              rw [n1]
              refine G_icmp_ge (tgt := 72) hC dX10_holdsUp_36 (by decide) (by omega) (by omega) (fun c36 => ?_) (fun c36 => ?_)
              · refine G_inc2 hC dX10_holdsUp_72 rfl ?_
                refine G_goto (tgt := 21) hC dX10_holdsUp_75 (by decide) ?_
                exact ih (g + 1) _ _ _ _ _ (by omega) (by omega) hE3 (fun g' d' h1 h2 => by
                  by_cases z : g' = g
                  · rw [z]; exact hD3 d' h2
                  · exact hN3 g' d' (by omega) h2)
              · exact absurd c36 (by omega)
            | succ c3 ih2 =>
              intro d dv M3 hdc f1 hE3 hN3 hD3
              subst f1
              have n1 : M3 45 1 = (sNd S : Int) := by rw [hE3 45 (by omega)]; exact w1.2.1.1.2.1
              have fa3 := MLi_x fa1 (fun b hb => hE3 45 (by omega) b) (fun a h1 h2 b => hE3 a (by omega) b)
              have hmr := mnL_r (Pd := fun x => dgf x.1 g = d) hFf L.length
              have hnd := nd_mn (g := g) (d := d) hLe hFs
              have hrc := nd_rc (T := sT S) (q := lq l0) (g := g) (d := d)
              rw [← hnd] at hrc
              obtain ⟨ndv, hndv⟩ : ∃ v, v = mnL (fun x => dgf x.1 g = d) L L.length := ⟨_, rfl⟩
              rw [← hndv] at hmr hrc
              rw [hq] at hrc
              have hup : ∀ v : Int, v = rcI (sT S) (enc (sNow S).1) g d → (∀ a, a ≠ 71 → ∀ b, upM M3 71 (6 * g + d) v a b = M16 a b) ∧ (∀ g' d', g' < g → d' < sNd S → upM M3 71 (6 * g + d) v 71 (6 * g' + d') = rcI (sT S) (enc (sNow S).1) g' d') ∧ (∀ d', d' < d + 1 → upM M3 71 (6 * g + d) v 71 (6 * g + d') = rcI (sT S) (enc (sNow S).1) g d') := fun v hv => by
                refine ⟨fun a ha b => by rw [upM_ne ha]; exact hE3 a ha b, fun g' d' hg' hd' => by rw [upM_nej (by omega)]; exact hN3 g' d' hg' hd', fun d' hd' => ?_⟩
                by_cases z : d' = d
                · rw [z, upM_self]; exact hv
                · rw [upM_nej (by omega)]; exact hD3 d' (by omega)
              by_cases hr : rcP (sT S) (enc (sNow S).1) g d
              · have hne : ¬ ndv = -4 := fun z => (hrc.mp z) hr
                obtain ⟨u1, u2, u3⟩ := hup 1 (rcI_1 hr).symm
                refine G_il3 hC dX10_holdsUp_31 ?_
                refine G_al0 hC dX10_holdsUp_32 ?_
                refine G_getI hC fl_X10_123 (by first | assumption | rfl) (by omega) dX10_holdsUp_33 ?_
                rw [n1]
                refine G_icmp_ge (tgt := 72) hC dX10_holdsUp_36 (by decide) (by omega) (by omega) (fun c36 => ?_) (fun c36 => ?_)
                · exact absurd c36 (by omega)
                · refine G_al0 hC dX10_holdsUp_39 ?_
                  refine G_getR hC fl_X10_86 (by first | assumption | rfl) (by omega) (by first | assumption | exact hGr _ _ rfl) dX10_holdsUp_40 ?_
                  refine G_bipush hC dX10_holdsUp_43 (by decide) ?_
                  refine G_il2 hC dX10_holdsUp_45 ?_
                  refine G_imul hC dX10_holdsUp_46 ?_
                  refine G_il3 hC dX10_holdsUp_47 ?_
                  refine G_iadd hC dX10_holdsUp_48 ?_
                  refine G_al0 hC dX10_holdsUp_49 ?_
                  refine G_il2 hC dX10_holdsUp_50 ?_
                  refine G_il3 hC dX10_holdsUp_51 ?_
                  refine G_callVI hC (c_X10_needOf (i := g) (d := d) hGr hX fa3 hFm hFf hgl (by omega)) mv_X10_275 (by first | assumption | rfl) (by omega) (by decide) rfl (by decide) dX10_holdsUp_52 rfl (Nat.le_of_ble_eq_true rfl) rfl (fun z52 M52 P52 h52 => ?_)
                  obtain ⟨rfl, rfl, rfl⟩ := h52
                  rw [← hndv]
                  refine G_bipush hC dX10_holdsUp_55 (by decide) ?_
                  refine G_icmp_eq (tgt := 64) hC dX10_holdsUp_57 (by decide) (by omega) (by omega) (fun c57 => ?_) (fun c57 => ?_)
                  · exact absurd c57 hne
                  · refine G_iconst hC dX10_holdsUp_60 ?_
                    refine G_goto (tgt := 65) hC dX10_holdsUp_61 (by decide) ?_
                    refine G_zastoreN (n := 6 * g + d) hC (by first | assumption | rfl) (by omega) (by omega) (by omega) (by omega) dX10_holdsUp_65 ?_
                    refine G_inc3 hC dX10_holdsUp_66 rfl ?_
                    refine G_goto (tgt := 31) hC dX10_holdsUp_69 (by decide) ?_
                    exact ih2 (d + 1) _ _ (by omega) (by omega) u1 u2 u3
              · have hne : ndv = -4 := hrc.mpr hr
                obtain ⟨u1, u2, u3⟩ := hup 0 (rcI_0 hr).symm
                refine G_il3 hC dX10_holdsUp_31 ?_
                refine G_al0 hC dX10_holdsUp_32 ?_
                refine G_getI hC fl_X10_123 (by first | assumption | rfl) (by omega) dX10_holdsUp_33 ?_
                rw [n1]
                refine G_icmp_ge (tgt := 72) hC dX10_holdsUp_36 (by decide) (by omega) (by omega) (fun c36 => ?_) (fun c36 => ?_)
                · exact absurd c36 (by omega)
                · refine G_al0 hC dX10_holdsUp_39 ?_
                  refine G_getR hC fl_X10_86 (by first | assumption | rfl) (by omega) (by first | assumption | exact hGr _ _ rfl) dX10_holdsUp_40 ?_
                  refine G_bipush hC dX10_holdsUp_43 (by decide) ?_
                  refine G_il2 hC dX10_holdsUp_45 ?_
                  refine G_imul hC dX10_holdsUp_46 ?_
                  refine G_il3 hC dX10_holdsUp_47 ?_
                  refine G_iadd hC dX10_holdsUp_48 ?_
                  refine G_al0 hC dX10_holdsUp_49 ?_
                  refine G_il2 hC dX10_holdsUp_50 ?_
                  refine G_il3 hC dX10_holdsUp_51 ?_
                  refine G_callVI hC (c_X10_needOf (i := g) (d := d) hGr hX fa3 hFm hFf hgl (by omega)) mv_X10_275 (by first | assumption | rfl) (by omega) (by decide) rfl (by decide) dX10_holdsUp_52 rfl (Nat.le_of_ble_eq_true rfl) rfl (fun z52 M52 P52 h52 => ?_)
                  obtain ⟨rfl, rfl, rfl⟩ := h52
                  rw [← hndv]
                  refine G_bipush hC dX10_holdsUp_55 (by decide) ?_
                  refine G_icmp_eq (tgt := 64) hC dX10_holdsUp_57 (by decide) (by omega) (by omega) (fun c57 => ?_) (fun c57 => ?_)
                  · refine G_iconst hC dX10_holdsUp_64 ?_
                    refine G_zastoreN (n := 6 * g + d) hC (by first | assumption | rfl) (by omega) (by omega) (by omega) (by omega) dX10_holdsUp_65 ?_
                    refine G_inc3 hC dX10_holdsUp_66 rfl ?_
                    refine G_goto (tgt := 31) hC dX10_holdsUp_69 (by decide) ?_
                    exact ih2 (d + 1) _ _ (by omega) (by omega) u1 u2 u3
                  · exact absurd hne c57
          refine G_il2 hC dX10_holdsUp_21 ?_
          refine G_al0 hC dX10_holdsUp_22 ?_
          refine G_getI hC fl_X10_116 (by first | assumption | rfl) (by omega) dX10_holdsUp_23 ?_
          rw [n0]
          refine G_icmp_ge (tgt := 78) hC dX10_holdsUp_26 (by decide) (by omega) (by omega) (fun c26 => ?_) (fun c26 => ?_)
          · exact absurd c26 (by omega)
          · refine G_iconst hC dX10_holdsUp_29 ?_
            refine G_is3 hC dX10_holdsUp_30 rfl ?_
            exact hin (sNd S) 0 _ _ (by omega) rfl hE hN (fun d' hd => by omega)
      refine G_iconst hC dX10_holdsUp_19 ?_
      refine G_is2 hC dX10_holdsUp_20 rfl ?_
      exact h21 (tn (sT S)) 0 _ _ _ _ _ (by omega) rfl (fun a ha b => rfl) (fun g' d' h => by omega)
    · exact absurd c6 (by omega)
  · refine G_il1 hC dX10_holdsUp_0 ?_
    refine G_iconst hC dX10_holdsUp_1 ?_
    refine G_iconst hC dX10_holdsUp_2 ?_
    refine G_callSI hC (c_in0 (by unfold i32r; omega) (by unfold i32r; omega) (by unfold i32r; omega) hy) ms_X10_119 (by decide) rfl (by decide) dX10_holdsUp_3 rfl (Nat.le_of_ble_eq_true rfl) rfl (fun z3 M3 P3 h3 => ?_)
    obtain ⟨rfl, rfl, rfl⟩ := h3
    refine G_if_ne (tgt := 11) hC dX10_holdsUp_6 (by decide) (by omega) (fun c6 => ?_) (fun c6 => ?_)
    · exact absurd rfl c6
    · refine G_iconst hC dX10_holdsUp_9 ?_
      exact G_iret hC hQ dX10_holdsUp_10 ⟨_, rfl, rfl, by unfold holdsS; rw [if_neg hy], hI.mono (by omega), eqx.refl⟩
