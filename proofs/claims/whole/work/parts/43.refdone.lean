/-! the reference: askings done -/
def rmI (M M1 : Mem) (g : Nat) : Prop := (∀ b, b < g → M1 52 b = M 52 (b + 6) ∧ M1 53 b = M 53 (b + 6)) ∧ (∀ b, g ≤ b → M1 52 b = M 52 b ∧ M1 53 b = M 53 b) ∧ ∀ a, a ≠ 52 → a ≠ 53 → ∀ b, M1 a b = M a b
theorem rmI_s {M M1 : Mem} {g : Nat} (h : rmI M M1 g) : rmI M (upM (upM M1 52 g (M 52 (g + 6))) 53 g (M 53 (g + 6))) (g + 1) := by
  obtain ⟨h1, h2, h3⟩ := h
  refine ⟨fun b hb => ?_, fun b hb => by rw [upM_ne (by omega), upM_nej (by omega), upM_nej (by omega), upM_ne (by omega)]; exact h2 b (by omega), fun a ht ht1 b => by rw [upM_ne ht1, upM_ne ht]; exact h3 a ht ht1 b⟩
  by_cases q : b = g
  · subst q
    exact ⟨by simp [upM], by simp [upM]⟩
  · obtain ⟨c1, c2⟩ := h1 b (by omega)
    exact ⟨by simp [upM, q, c1], by simp [upM, q, c2]⟩
def rnI (M M1 : Mem) (g : Nat) : Prop := (∀ b, b < g → M1 54 b = M 54 (b + 1)) ∧ (∀ b, g ≤ b → M1 54 b = M 54 b) ∧ ∀ a, a ≠ 54 → ∀ b, M1 a b = M a b
theorem rnI_s {M M1 : Mem} {g : Nat} (h : rnI M M1 g) : rnI M (upM M1 54 g (M 54 (g + 1))) (g + 1) := by
  obtain ⟨h1, h2, h3⟩ := h
  refine ⟨fun b hb => ?_, fun b hb => by rw [upM_nej (by omega)]; exact h2 b (by omega), fun a ht b => by rw [upM_ne ht]; exact h3 a ht b⟩
  by_cases q : b = g
  · subst q
    exact upM_self _ _ _ _
  · rw [upM_nej q]; exact h1 b (by omega)
theorem StM_tail {M M1 M2 : Mem} {n : Nat} {ms : List MO} (hn : n ≤ 6) (h : StM M n 52 12 ms) (h8 : ms.length = 8) (r1 : rmI M M1 42) (r2 : rnI M1 M2 7) : StM (upM M2 45 12 7) n 52 12 ms.tail := by
  obtain ⟨a1, a2⟩ := h
  refine ⟨by rw [upM_self]; simp; omega, fun k y hk => ?_⟩
  rw [List.getElem?_tail] at hk
  have hkl := (List.getElem?_eq_some_iff.mp hk).1
  obtain ⟨b1, b2⟩ := a2 (k + 1) y hk
  refine ⟨fun g hg => ?_, ?_⟩
  · have := b1 g hg
    rw [upM_ne (by omega), upM_ne (by omega), r2.2.2 52 (by omega), r2.2.2 53 (by omega), (r1.1 _ (by omega)).1, (r1.1 _ (by omega)).2, show 6 * k + g + 6 = 6 * (k + 1) + g by omega]
    exact this
  · rw [upM_ne (by omega), r2.1 k (by omega), r1.2.2 54 (by omega) (by omega)]; exact b2
def rmQ (M : Mem) (P : PMem) (n : Nat) (ms : List MO) : Mem → PMem → Prop := fun M' P' => P = P' ∧ StM M' n 52 12 ms ∧ (∀ a, a ≠ 45 → ¬ (52 ≤ a ∧ a ≤ 54) → ∀ b, M' a b = M a b) ∧ ∀ b, b ≠ 12 → M' 45 b = M 45 b
set_option maxHeartbeats 4000000 in
set_option maxRecDepth 100000 in
theorem c_X10_remembers {l : Launch} {c : Nat} {S : AS} {M : Mem} {P : PMem} (hS : SOK c S) (hI : MIv c M P S)  : CtV l yX10_remembers cX10_remembers 2 none 0 0 77 [vR 45] M P (rmQ M P (tn (sT S)) (pushU S)) := by
  refine Ct_of (own := RX10) (L := [vR 45, vX 1]) (by decide) rfl rfl (Nat.le_of_ble_eq_true rfl) (fun X Y hl hC hQ => ?_)
  obtain ⟨hGr, ⟨⟨g0, g1, g2, g3, g4⟩, g5⟩, ⟨g6, g7⟩, g8, g9, ⟨g10, g11⟩, g12⟩ := id hI
  obtain ⟨s1, ⟨s2, s3, s4, s5, s6, s7, s8⟩, ⟨s9, s10, s11, s12⟩, s13, s14, s15, s16, s17, s18⟩ := id hS
  obtain ⟨m1, m2, m3, m4⟩ := id s14
  have hpush : ∀ (ms : List MO) (M0 : Mem) (x1 : AV), StM M0 (tn (sT S)) 52 12 ms → ms.length ≤ 7 → (∀ a, a ≠ 45 → ¬ (52 ≤ a ∧ a ≤ 54) → ∀ b, M0 a b = M a b) → (∀ b, b ≠ 12 → M0 45 b = M 45 b) → ms ++ [sNow S] = pushU S → G X Y 91 [vR 45, x1] [] M0 P := by
    intro ms M0 x1 hst hl ho h5 hpu
    have hlp : ∀ (c2 g : Nat) (gv : Int) (M1 : Mem), g + c2 = tn (sT S) → gv = (g : Int) → coI M0 M1 52 ms.length g → G X Y 93 [vR 45, vI gv] [] M1 P := by
      intro c2
      induction c2 with
      | zero =>
        intro g gv M1 hg e1 hL
        subst e1
        have hgn : g = tn (sT S) := by omega
        subst hgn
        have h45 := hL.2.2 45 (by omega) (by omega)
        have hp2 := StM_push (x := sNow S) s7 (by omega) (by omega) hst hL ⟨fun g hg => by rw [ho 50 (by omega) (by omega), ho 51 (by omega) (by omega)]; exact g6 g hg, by rw [h5 11 (by omega)]; exact g7⟩
        rw [hpu] at hp2
        refine G_il1 hC dX10_remembers_93 ?_
        refine G_al0 hC dX10_remembers_94 ?_
        refine G_getI hC fl_X10_116 (by first | assumption | rfl) (by omega) dX10_remembers_95 ?_
        rw [h45, h5 0 (by omega), g0]
        refine G_icmp_ge (tgt := 147) hC dX10_remembers_98 (by decide) (by omega) (by omega) (fun c98 => ?_) (fun c98 => ?_)
        · refine G_al0 hC dX10_remembers_147 ?_
          refine G_getR hC fl_X10_34 (by first | assumption | rfl) (by omega) (by first | assumption | exact hGr _ _ rfl) dX10_remembers_148 ?_
          refine G_al0 hC dX10_remembers_151 ?_
          refine G_getI hC fl_X10_186 (by first | assumption | rfl) (by omega) dX10_remembers_152 ?_
          rw [h45, hst.1]
          refine G_al0 hC dX10_remembers_155 ?_
          refine G_getI hC fl_X10_183 (by first | assumption | rfl) (by omega) dX10_remembers_156 ?_
          rw [h45]
          refine G_iastoreN (n := ms.length) hC (by first | assumption | rfl) (by omega) (by omega) (by omega) dX10_remembers_159 ?_
          refine G_al0 hC dX10_remembers_160 ?_
          refine G_dup hC dX10_remembers_161 rfl ?_
          refine G_getI hC fl_X10_186 (by first | assumption | rfl) (by omega) dX10_remembers_162 ?_
          rw [upM_ne (by omega), h45, hst.1]
          refine G_iconst hC dX10_remembers_165 ?_
          refine G_iadd hC dX10_remembers_166 ?_
          refine G_putI hC fl_X10_186 (by first | assumption | rfl) (by omega) dX10_remembers_167 ?_
          exact G_vret hC hQ dX10_remembers_170 ⟨rfl, rfl, hp2, fun a h1 h2 b => by rw [upM_ne h1, upM_ne (by omega), hL.2.2 a (by omega) (by omega)]; exact ho a h1 h2 b, fun b hb => by rw [upM_nej hb, upM_ne (by omega), h45]; exact h5 b hb⟩
        · exact absurd c98 (by omega)
      | succ c2 ih =>
        intro g gv M1 hg e1 hL
        subst e1
        have h45 := hL.2.2 45 (by omega) (by omega)
        have x50 := hL.2.2 50 (by omega) (by omega) g
        have x51 := hL.2.2 51 (by omega) (by omega) g
        refine G_il1 hC dX10_remembers_93 ?_
        refine G_al0 hC dX10_remembers_94 ?_
        refine G_getI hC fl_X10_116 (by first | assumption | rfl) (by omega) dX10_remembers_95 ?_
        rw [h45, h5 0 (by omega), g0]
        refine G_icmp_ge (tgt := 147) hC dX10_remembers_98 (by decide) (by omega) (by omega) (fun c98 => ?_) (fun c98 => ?_)
        · exact absurd c98 (by omega)
        · refine G_al0 hC dX10_remembers_101 ?_
          refine G_getR hC fl_X10_28 (by first | assumption | rfl) (by omega) (by first | assumption | exact hGr _ _ rfl) dX10_remembers_102 ?_
          refine G_bipush hC dX10_remembers_105 (by decide) ?_
          refine G_al0 hC dX10_remembers_107 ?_
          refine G_getI hC fl_X10_186 (by first | assumption | rfl) (by omega) dX10_remembers_108 ?_
          rw [h45, hst.1]
          refine G_imul hC dX10_remembers_111 ?_
          refine G_il1 hC dX10_remembers_112 ?_
          refine G_iadd hC dX10_remembers_113 ?_
          refine G_al0 hC dX10_remembers_114 ?_
          refine G_getR hC fl_X10_22 (by first | assumption | rfl) (by omega) (by first | assumption | exact hGr _ _ rfl) dX10_remembers_115 ?_
          refine G_il1 hC dX10_remembers_118 ?_
          refine G_ialoadN (n := g) hC (by first | assumption | rfl) (by omega) (by omega) (by omega) dX10_remembers_119 ?_
          rw [x50]
          refine G_iastoreN (n := 6 * ms.length + g) hC (by first | assumption | rfl) (by omega) (by omega) (by omega) dX10_remembers_120 ?_
          refine G_al0 hC dX10_remembers_121 ?_
          refine G_getR hC fl_X10_31 (by first | assumption | rfl) (by omega) (by first | assumption | exact hGr _ _ rfl) dX10_remembers_122 ?_
          refine G_bipush hC dX10_remembers_125 (by decide) ?_
          refine G_al0 hC dX10_remembers_127 ?_
          refine G_getI hC fl_X10_186 (by first | assumption | rfl) (by omega) dX10_remembers_128 ?_
          rw [upM_ne (by omega), h45, hst.1]
          refine G_imul hC dX10_remembers_131 ?_
          refine G_il1 hC dX10_remembers_132 ?_
          refine G_iadd hC dX10_remembers_133 ?_
          refine G_al0 hC dX10_remembers_134 ?_
          refine G_getR hC fl_X10_25 (by first | assumption | rfl) (by omega) (by first | assumption | exact hGr _ _ rfl) dX10_remembers_135 ?_
          refine G_il1 hC dX10_remembers_138 ?_
          refine G_ialoadN (n := g) hC (by first | assumption | rfl) (by omega) (by omega) (by omega) dX10_remembers_139 ?_
          rw [upM_ne (by omega), x51]
          refine G_iastoreN (n := 6 * ms.length + g) hC (by first | assumption | rfl) (by omega) (by omega) (by omega) dX10_remembers_140 ?_
          refine G_inc1 hC dX10_remembers_141 rfl ?_
          refine G_goto (tgt := 93) hC dX10_remembers_144 (by decide) ?_
          exact ih (g + 1) _ _ (by omega) (by omega) (coI_s hL)
    refine G_iconst hC dX10_remembers_91 ?_
    refine G_is1 hC dX10_remembers_92 rfl ?_
    exact hlp (tn (sT S)) 0 _ M0 (by omega) rfl coI_0
  by_cases h8 : (sUn S).length = 8
  · have hlp2 : ∀ (M1 : Mem) (x1 : AV), rmI M M1 42 → G X Y 53 [vR 45, x1] [] M1 P := by
      intro M1 x1 hr1
      have hlp : ∀ (c2 g : Nat) (gv : Int) (M2 : Mem), g + c2 = 7 → gv = (g : Int) → rnI M1 M2 g → G X Y 55 [vR 45, vI gv] [] M2 P := by
        intro c2
        induction c2 with
        | zero =>
          intro g gv M2 hg e1 hL
          subst e1
          have : g = 7 := by omega
          subst this
          have e12 : M2 45 12 = 8 := by rw [hL.2.2 45 (by omega), hr1.2.2 45 (by omega) (by omega), g8.1, h8]; rfl
          refine G_il1 hC dX10_remembers_55 ?_
          refine G_bipush hC dX10_remembers_56 (by decide) ?_
          refine G_icmp_ge (tgt := 81) hC dX10_remembers_58 (by decide) (by omega) (by omega) (fun c58 => ?_) (fun c58 => ?_)
          · refine G_al0 hC dX10_remembers_81 ?_
            refine G_dup hC dX10_remembers_82 rfl ?_
            refine G_getI hC fl_X10_186 (by first | assumption | rfl) (by omega) dX10_remembers_83 ?_
            rw [e12]
            refine G_iconst hC dX10_remembers_86 ?_
            refine G_isub hC dX10_remembers_87 ?_
            refine G_putI hC fl_X10_186 (by first | assumption | rfl) (by omega) dX10_remembers_88 ?_
            have ht := StM_tail s7 g8 h8 hr1 hL
            exact hpush (sUn S).tail _ _ ht (by simp; omega) (fun a h1 h2 b => by rw [upM_ne h1, hL.2.2 a (by omega), hr1.2.2 a (by omega) (by omega)]) (fun b hb => by rw [upM_nej hb, hL.2.2 45 (by omega), hr1.2.2 45 (by omega) (by omega)]) (by unfold pushU; rw [if_neg (by omega)])
          · exact absurd c58 (by omega)
        | succ c2 ih =>
          intro g gv M2 hg e1 hL
          subst e1
          refine G_il1 hC dX10_remembers_55 ?_
          refine G_bipush hC dX10_remembers_56 (by decide) ?_
          refine G_icmp_ge (tgt := 81) hC dX10_remembers_58 (by decide) (by omega) (by omega) (fun c58 => ?_) (fun c58 => ?_)
          · exact absurd c58 (by omega)
          · refine G_al0 hC dX10_remembers_61 ?_
            refine G_getR hC fl_X10_34 (by first | assumption | rfl) (by omega) (by first | assumption | exact hGr _ _ rfl) dX10_remembers_62 ?_
            refine G_il1 hC dX10_remembers_65 ?_
            refine G_al0 hC dX10_remembers_66 ?_
            refine G_getR hC fl_X10_34 (by first | assumption | rfl) (by omega) (by first | assumption | exact hGr _ _ rfl) dX10_remembers_67 ?_
            refine G_il1 hC dX10_remembers_70 ?_
            refine G_iconst hC dX10_remembers_71 ?_
            refine G_iadd hC dX10_remembers_72 ?_
            refine G_ialoadN (n := g + 1) hC (by first | assumption | rfl) (by omega) (by omega) (by omega) dX10_remembers_73 ?_
            rw [hL.2.1 _ (by omega)]
            refine G_iastoreN (n := g) hC (by first | assumption | rfl) (by omega) (by omega) (by omega) dX10_remembers_74 ?_
            refine G_inc1 hC dX10_remembers_75 rfl ?_
            refine G_goto (tgt := 55) hC dX10_remembers_78 (by decide) ?_
            exact ih (g + 1) _ _ (by omega) (by omega) (rnI_s hL)
      refine G_iconst hC dX10_remembers_53 ?_
      refine G_is1 hC dX10_remembers_54 rfl ?_
      exact hlp 7 0 _ M1 (by omega) rfl ⟨fun b hb => by omega, fun _ _ => rfl, fun _ _ _ => rfl⟩
    have hlp : ∀ (c2 g : Nat) (gv : Int) (M1 : Mem), g + c2 = 42 → gv = (g : Int) → rmI M M1 g → G X Y 11 [vR 45, vI gv] [] M1 P := by
      intro c2
      induction c2 with
      | zero =>
        intro g gv M1 hg e1 hL
        subst e1
        have : g = 42 := by omega
        subst this
        refine G_il1 hC dX10_remembers_11 ?_
        refine G_bipush hC dX10_remembers_12 (by decide) ?_
        refine G_icmp_ge (tgt := 53) hC dX10_remembers_14 (by decide) (by omega) (by omega) (fun c14 => ?_) (fun c14 => ?_)
        · exact hlp2 M1 _ hL
        · exact absurd c14 (by omega)
      | succ c2 ih =>
        intro g gv M1 hg e1 hL
        subst e1
        refine G_il1 hC dX10_remembers_11 ?_
        refine G_bipush hC dX10_remembers_12 (by decide) ?_
        refine G_icmp_ge (tgt := 53) hC dX10_remembers_14 (by decide) (by omega) (by omega) (fun c14 => ?_) (fun c14 => ?_)
        · exact absurd c14 (by omega)
        · refine G_al0 hC dX10_remembers_17 ?_
          refine G_getR hC fl_X10_28 (by first | assumption | rfl) (by omega) (by first | assumption | exact hGr _ _ rfl) dX10_remembers_18 ?_
          refine G_il1 hC dX10_remembers_21 ?_
          refine G_al0 hC dX10_remembers_22 ?_
          refine G_getR hC fl_X10_28 (by first | assumption | rfl) (by omega) (by first | assumption | exact hGr _ _ rfl) dX10_remembers_23 ?_
          refine G_il1 hC dX10_remembers_26 ?_
          refine G_bipush hC dX10_remembers_27 (by decide) ?_
          refine G_iadd hC dX10_remembers_29 ?_
          refine G_ialoadN (n := g + 6) hC (by first | assumption | rfl) (by omega) (by omega) (by omega) dX10_remembers_30 ?_
          rw [(hL.2.1 _ (by omega)).1]
          refine G_iastoreN (n := g) hC (by first | assumption | rfl) (by omega) (by omega) (by omega) dX10_remembers_31 ?_
          refine G_al0 hC dX10_remembers_32 ?_
          refine G_getR hC fl_X10_31 (by first | assumption | rfl) (by omega) (by first | assumption | exact hGr _ _ rfl) dX10_remembers_33 ?_
          refine G_il1 hC dX10_remembers_36 ?_
          refine G_al0 hC dX10_remembers_37 ?_
          refine G_getR hC fl_X10_31 (by first | assumption | rfl) (by omega) (by first | assumption | exact hGr _ _ rfl) dX10_remembers_38 ?_
          refine G_il1 hC dX10_remembers_41 ?_
          refine G_bipush hC dX10_remembers_42 (by decide) ?_
          refine G_iadd hC dX10_remembers_44 ?_
          refine G_ialoadN (n := g + 6) hC (by first | assumption | rfl) (by omega) (by omega) (by omega) dX10_remembers_45 ?_
          rw [upM_ne (by omega), (hL.2.1 _ (by omega)).2]
          refine G_iastoreN (n := g) hC (by first | assumption | rfl) (by omega) (by omega) (by omega) dX10_remembers_46 ?_
          refine G_inc1 hC dX10_remembers_47 rfl ?_
          refine G_goto (tgt := 11) hC dX10_remembers_50 (by decide) ?_
          exact ih (g + 1) _ _ (by omega) (by omega) (rmI_s hL)
    refine G_al0 hC dX10_remembers_0 ?_
    refine G_getI hC fl_X10_186 (by first | assumption | rfl) (by omega) dX10_remembers_1 ?_
    rw [g8.1]
    refine G_bipush hC dX10_remembers_4 (by decide) ?_
    refine G_icmp_ne (tgt := 91) hC dX10_remembers_6 (by decide) (by omega) (by omega) (fun c6 => ?_) (fun c6 => ?_)
    · exact absurd (by omega) c6
    · refine G_iconst hC dX10_remembers_9 ?_
      refine G_is1 hC dX10_remembers_10 rfl ?_
      exact hlp 42 0 _ M (by omega) rfl ⟨fun b hb => by omega, fun _ _ => ⟨rfl, rfl⟩, fun _ _ _ _ => rfl⟩
  · refine G_al0 hC dX10_remembers_0 ?_
    refine G_getI hC fl_X10_186 (by first | assumption | rfl) (by omega) dX10_remembers_1 ?_
    rw [g8.1]
    refine G_bipush hC dX10_remembers_4 (by decide) ?_
    refine G_icmp_ne (tgt := 91) hC dX10_remembers_6 (by decide) (by omega) (by omega) (fun c6 => ?_) (fun c6 => ?_)
    · exact hpush (sUn S) M _ g8 (by omega) (fun _ _ _ _ => rfl) (fun _ _ => rfl) (by unfold pushU; rw [if_pos (by omega)])
    · exact absurd c6 (by omega)
theorem siI_M {c : Nat} {M M' : Mem} {P : PMem} {S : AS} (hI : MIv c M P S) (h : siI M M' (tn (sT S)) (6 * tn (sT S))) : MIv c M' P S ∧ eqx mdX M M' :=
  ⟨MIv_x hI (fun a h1 h2 b => h.2.2 a (by omega) b) (fun b hb => h.2.2 45 (by omega) b) (qMk_x hI.2.2.2.2.2.2 (h.2.2 45 (by omega) 37) (h.2.2 67 (by omega))), fun a ha b => h.2.2 a (fun q => ha (by unfold mdX; omega)) b⟩
theorem lieOK_N {n : Nat} {f : Nat → Nat} (h : lieOK f) : lieN n f := fun g _ => h g
theorem dn_nv {d : Nat} : (if d = 7 then (-4 : Int) else (d : Int)) = if nv d = -1 then -4 else nv d := by
  unfold nv
  by_cases z : d = 7
  · rw [if_pos z, if_pos z, if_pos rfl]
  · rw [if_neg z, if_neg z, if_neg (by omega)]
theorem MIv.mono {c c' : Nat} {M : Mem} {P : PMem} {S : AS} (h : MIv c M P S) (hc : c ≤ c') : MIv c' M P S := by
  obtain ⟨h1, h2, h3, h4, h5, h6, h7⟩ := h
  exact ⟨h1, h2, h3, h4, h5, h6, h7.1, by have := h7.2.1; omega, h7.2.2⟩
set_option maxHeartbeats 4000000 in
set_option maxRecDepth 100000 in
theorem c_X10_ask {l : Launch} {c : Nat} {S : AS} {i j : Int} {M : Mem} {P : PMem} (hS : SOK c S) (hK : TOK S) (hI : MIv c M P S) (hi : i32r i) (hj0 : i32r j) : CtI l yX10_ask cX10_ask 3 (some .int) 3 77 77 [vR 45, vI i, vI j] M P (mR (c + 1) M P (askS S i j).2 (askS S i j).1) := by
  refine Ct_of (own := RX10) (L := [vR 45, vI i, vI j]) (by decide) rfl rfl (Nat.le_of_ble_eq_true rfl) (fun X Y hl hC hQ => ?_)
  obtain ⟨hGr, ⟨⟨g0, g1, g2, g3, g4⟩, g5⟩, ⟨g6, g7⟩, g8, g9, ⟨g10, g11⟩, g12⟩ := id hI
  obtain ⟨s1, ⟨s2, s3, s4, s5, s6, s7, s8⟩, ⟨s9, s10, s11, s12⟩, s13, s14, s15, s16, s17, s18⟩ := id hS
  obtain ⟨m1, m2, m3, m4⟩ := id s14
  unfold i32r at *
  by_cases hg : isG S i
  · by_cases hj : isG S j
    · obtain ⟨g, rfl⟩ : ∃ g : Nat, i = (g : Int) := ⟨i.toNat, by have := hg.1; omega⟩
      obtain ⟨e, rfl⟩ : ∃ e : Nat, j = (e : Int) := ⟨j.toNat, by have := hj.1; omega⟩
      have hg2 := hg.2
      have hj2 := hj.2
      by_cases hcan : can (sT S) (sNow S).1 g e
      · have hask : askS S (g : Int) (e : Int) = (dnF (aft (sT S) (sNow S).1 g e) g, (S.1, S.2.1, newM S g e, pushU S, sKe S)) := by
          unfold askS
          rw [if_pos ⟨hg, hj⟩]
          simp only [Int.toNat_natCast]
          rw [if_pos hcan]
        have hlie2 : lieOK (aft (sT S) (sNow S).1 g e) := aft_lie s6 s7 (by omega) (by omega) hcan.1 s9 m1 m2
        have hh5 := hnd_le5 (T := sT S) (i := g) (j := e) s7 (by omega) (by omega)
        refine G_al0 hC dX10_ask_0 ?_
        refine G_il1 hC dX10_ask_1 ?_
        refine G_callVI hC (c_X10_isGuest1 hS hI (by unfold i32r; omega) hg) mv_X10_192 (by first | assumption | rfl) (by omega) (by decide) rfl (by decide) dX10_ask_2 rfl (Nat.le_of_ble_eq_true rfl) rfl (fun z2 M2 P2 h2 => ?_)
        obtain ⟨rfl, rfl, rfl⟩ := h2
        refine G_if_eq (tgt := 16) hC dX10_ask_5 (by decide) (by omega) (fun c5 => ?_) (fun c5 => ?_)
        · exact absurd c5 (by omega)
        · refine G_al0 hC dX10_ask_8 ?_
          refine G_il2 hC dX10_ask_9 ?_
          refine G_callVI hC (c_X10_isGuest1 hS hI (by unfold i32r; omega) hj) mv_X10_192 (by first | assumption | rfl) (by omega) (by decide) rfl (by decide) dX10_ask_10 rfl (Nat.le_of_ble_eq_true rfl) rfl (fun z10 M10 P10 h10 => ?_)
          obtain ⟨rfl, rfl, rfl⟩ := h10
          refine G_if_ne (tgt := 18) hC dX10_ask_13 (by decide) (by omega) (fun c13 => ?_) (fun c13 => ?_)
          · refine G_al0 hC dX10_ask_18 ?_
            refine G_callVV hC (c_X10_sits hGr g0 s7) mv_X10_220 (by first | assumption | rfl) (by omega) (by decide) rfl (by decide) dX10_ask_19 rfl (Nat.le_of_ble_eq_true rfl) rfl (fun M19 P19 h19 => ?_)
            obtain ⟨rfl, v0⟩ := h19
            obtain ⟨v1, v2⟩ := si_R hS hK hI v0
            obtain ⟨v3, v4⟩ := siI_M hI v0
            refine G_al0 hC dX10_ask_22 ?_
            refine G_il1 hC dX10_ask_23 ?_
            refine G_il2 hC dX10_ask_24 ?_
            refine G_callVI hC (c_X10_mayAsk (i := g) (j := e) hGr v1 v2 (lieOK_N m1) (by omega) (by omega)) mv_X10_223 (by first | assumption | rfl) (by omega) (by decide) rfl (by decide) dX10_ask_25 rfl (Nat.le_of_ble_eq_true rfl) rfl (fun z25 M25 P25 h25 => ?_)
            obtain ⟨rfl, rfl, rfl⟩ := h25
            rw [canI_1 hcan]
            refine G_if_ne (tgt := 34) hC dX10_ask_28 (by decide) (by omega) (fun c28 => ?_) (fun c28 => ?_)
            · refine G_al0 hC dX10_ask_34 ?_
              refine G_callVV hC (c_X10_remembers hS v3) mv_X10_227 (by first | assumption | rfl) (by omega) (by decide) rfl (by decide) dX10_ask_35 rfl (Nat.le_of_ble_eq_true rfl) rfl (fun M35 P35 h35 => ?_)
              obtain ⟨rfl, u1, u2, u3⟩ := h35
              have kS3 : SkR M35 (sT S) (sW S) := SkR_x v1 (fun b hb => u3 b (by omega)) (fun a h1 h2 b => u2 a (by omega) (by omega) b)
              have pS3 : SpR M35 (tn (sT S)) (sNow S).1 := fun g hg => by rw [u2 63 (by omega) (by omega)]; exact v2 g hg
              refine G_al0 hC dX10_ask_38 ?_
              refine G_il1 hC dX10_ask_39 ?_
              refine G_il2 hC dX10_ask_40 ?_
              refine G_callVV hC (c_X10_asks (i := g) (j := e) hGr kS3 pS3 (lieOK_N m1) (by omega) (by omega) hcan.1) mv_X10_230 (by first | assumption | rfl) (by omega) (by decide) rfl (by decide) dX10_ask_41 rfl (Nat.le_of_ble_eq_true rfl) rfl (fun M41 P41 h41 => ?_)
              obtain ⟨rfl, a2, a3⟩ := h41
              have n0 : M41 45 0 = (tn (sT S) : Int) := by rw [a3 45 (by unfold s63; omega), u3 0 (by omega)]; exact v1.1.1
              refine G_al0 hC dX10_ask_44 ?_
              refine G_callVV hC (c_X10_puts hGr n0 s7 (fun x hx => by rw [a2 x hx]; exact nv_r (by rcases hlie2 x with q | q <;> omega))) mv_X10_234 (by first | assumption | rfl) (by omega) (by decide) rfl (by decide) dX10_ask_45 rfl (Nat.le_of_ble_eq_true rfl) rfl (fun M45 P45 h45 => ?_)
              obtain ⟨rfl, b0⟩ := h45
              obtain ⟨w1, w2, w3, w4, w5, w6, w7⟩ := id v3
              have e0 : ∀ a, a ≠ 45 → ¬ (50 ≤ a ∧ a ≤ 54) → a ≠ 63 → ∀ b, M45 a b = M19 a b := fun a h1 h2 h3 b => by rw [b0.2.2 a (by omega) (by omega), a3 a h3, u2 a h1 (by omega)]
              have e45 : ∀ b, b ≠ 12 → M45 45 b = M19 45 b := fun b hb => by rw [b0.2.2 45 (by omega) (by omega), a3 45 (by unfold s63; omega), u3 b hb]
              have p11 : M45 45 11 = ((sNow S).2.2 : Int) := by rw [e45 11 (by omega)]; exact w3.2
              have pp0 : M45 45 0 = (tn (sT S) : Int) := by rw [e45 0 (by omega)]; exact w2.1.1
              have pp2 : M45 45 2 = (tr (sT S) : Int) := by rw [e45 2 (by omega)]; exact w2.1.2.2.1
              have p50 : M45 50 g = nv (aft (sT S) (sNow S).1 g e g) := by rw [(b0.1 g (by omega)).1]; exact a2 g (by omega)
              have hnr := nv_r (d := aft (sT S) (sNow S).1 g e g) (by rcases hlie2 g with q | q <;> omega)
              have hnew : MIv c (upM M45 45 11 ((sNow S).2.2 + hnd (sT S) g e)) P (S.1, S.2.1, newM S g e, pushU S, sKe S) := by
                have f0 : ∀ a, a ≠ 45 → ∀ b, upM M45 45 11 ((sNow S).2.2 + hnd (sT S) g e) a b = M45 a b := fun a ha b => upM_ne ha b
                have f5 : ∀ b, b ≠ 11 → upM M45 45 11 ((sNow S).2.2 + hnd (sT S) g e) 45 b = M45 45 b := fun b hb => upM_nej hb 45
                refine ⟨hGr, ⟨⟨by rw [f5 0 (by omega)]; exact pp0, by rw [f5 1 (by omega), e45 1 (by omega)]; exact w2.1.2.1, by rw [f5 2 (by omega)]; exact pp2, by rw [f5 3 (by omega), e45 3 (by omega)]; exact w2.1.2.2.2.1, by rw [f5 4 (by omega), e45 4 (by omega)]; exact w2.1.2.2.2.2⟩, fun x hx => ?_⟩, ⟨fun x hx => ?_, by rw [upM_self]; show _ = (((sNow S).2.2 + hnd (sT S) g e : Nat) : Int); omega⟩, StM_x u1 (fun a ha b => by rw [f0 a (by omega), b0.2.2 a (by omega) (by omega), a3 a (by unfold s63; omega)]) (by rw [f5 12 (by omega), b0.2.2 45 (by omega) (by omega), a3 45 (by unfold s63; omega)]), StM_x w5 (fun a ha b => by rw [f0 a (by omega)]; exact e0 a (by omega) (by omega) (by omega) b) (by rw [f5 16 (by omega)]; exact e45 16 (by omega)), ⟨fun k hk => by rw [f0 58 (by omega), e0 58 (by omega) (by omega) (by omega)]; exact w6.1 k hk, by rw [f5 21 (by omega), e45 21 (by omega)]; exact w6.2⟩, qMk_x w7 (by rw [f5 37 (by omega)]; exact e45 37 (by omega)) (fun b => by rw [f0 67 (by omega)]; exact e0 67 (by omega) (by omega) (by omega) b)⟩
                · rw [f0 46 (by omega), f0 47 (by omega), f0 49 (by omega), e0 46 (by omega) (by omega) (by omega), e0 47 (by omega) (by omega) (by omega), e0 49 (by omega) (by omega) (by omega)]
                  exact ⟨(w2.2 x hx).1, (w2.2 x hx).2.1, (w2.2 x hx).2.2.1, fun d hd => by rw [f0 48 (by omega), e0 48 (by omega) (by omega) (by omega)]; exact (w2.2 x hx).2.2.2 d hd⟩
                · have hx' : x < tn (sT S) := hx
                  have q1 := b0.1 x hx'
                  have q2 := a2 x hx'
                  have q3 := (w3.1 x hx').2
                  rw [f0 50 (by omega), f0 51 (by omega), q1.1, q1.2, q2, a3 51 (by unfold s63; omega), u2 51 (by omega) (by omega), q3, hvI_nv (hlie2 x)]
                  refine ⟨rfl, ?_⟩
                  have hb1 := m3 x
                  have hb2 := hbit_lo hlie2 x
                  rw [bOr_n (by omega) (by omega)]
                  rfl
              have hex : eqx mdX M (upM M45 45 11 ((sNow S).2.2 + hnd (sT S) g e)) := v4.trans (fun a ha b => by
                unfold mdX at ha
                rw [upM_ne (by omega)]; exact e0 a (by omega) (by omega) (by omega) b)
              refine G_al0 hC dX10_ask_48 ?_
              refine G_dup hC dX10_ask_49 rfl ?_
              refine G_getI hC fl_X10_183 (by first | assumption | rfl) (by omega) dX10_ask_50 ?_
              rw [p11]
              refine G_al0 hC dX10_ask_53 ?_
              refine G_il1 hC dX10_ask_54 ?_
              refine G_il2 hC dX10_ask_55 ?_
              refine G_callVI hC (c_X10_handsOf (T := sT S) (i := g) (j := e) hGr pp0 pp2 s6 s7 s8 (by omega) (by omega)) mv_X10_206 (by first | assumption | rfl) (by omega) (by decide) rfl (by decide) dX10_ask_56 rfl (Nat.le_of_ble_eq_true rfl) rfl (fun z56 M56 P56 h56 => ?_)
              obtain ⟨rfl, rfl, rfl⟩ := h56
              refine G_iadd hC dX10_ask_59 ?_
              refine G_putI hC fl_X10_183 (by first | assumption | rfl) (by omega) dX10_ask_60 ?_
              refine G_al0 hC dX10_ask_63 ?_
              refine G_getR hC fl_X10_22 (by first | assumption | rfl) (by omega) (by first | assumption | exact hGr _ _ rfl) dX10_ask_64 ?_
              refine G_il1 hC dX10_ask_67 ?_
              refine G_ialoadN (n := g) hC (by first | assumption | rfl) (by omega) (by omega) (by omega) dX10_ask_68 ?_
              rw [upM_ne (by omega), p50]
              refine G_iconst hC dX10_ask_69 ?_
              refine G_icmp_ne (tgt := 78) hC dX10_ask_70 (by decide) (by omega) (by omega) (fun c70 => ?_) (fun c70 => ?_)
              · refine G_al0 hC dX10_ask_78 ?_
                refine G_getR hC fl_X10_22 (by first | assumption | rfl) (by omega) (by first | assumption | exact hGr _ _ rfl) dX10_ask_79 ?_
                refine G_il1 hC dX10_ask_82 ?_
                refine G_ialoadN (n := g) hC (by first | assumption | rfl) (by omega) (by omega) (by omega) dX10_ask_83 ?_
                first | rw [upM_ne (show 50 ≠ 45 by omega), p50] | skip
                exact G_iret hC hQ dX10_ask_84 ⟨_, rfl, rfl, by rw [hask]; show _ = dnF _ _; unfold dnF; rw [dn_nv]; first | (rw [if_pos (by omega)]; done) | (rw [if_neg (by omega)]; done), by rw [hask]; exact hnew.mono (by omega), hex⟩
              · refine G_bipush hC dX10_ask_73 (by decide) ?_
                refine G_goto (tgt := 84) hC dX10_ask_75 (by decide) ?_
                first | rw [upM_ne (show 50 ≠ 45 by omega), p50] | skip
                exact G_iret hC hQ dX10_ask_84 ⟨_, rfl, rfl, by rw [hask]; show _ = dnF _ _; unfold dnF; rw [dn_nv]; first | (rw [if_pos (by omega)]; done) | (rw [if_neg (by omega)]; done), by rw [hask]; exact hnew.mono (by omega), hex⟩
            · exact absurd c28 (by omega)
          · exact absurd c13 (by omega)
      · have hask : askS S (g : Int) (e : Int) = (-2, S) := by
          unfold askS
          rw [if_pos ⟨hg, hj⟩]
          simp only [Int.toNat_natCast]
          rw [if_neg hcan]
        refine G_al0 hC dX10_ask_0 ?_
        refine G_il1 hC dX10_ask_1 ?_
        refine G_callVI hC (c_X10_isGuest1 hS hI (by unfold i32r; omega) hg) mv_X10_192 (by first | assumption | rfl) (by omega) (by decide) rfl (by decide) dX10_ask_2 rfl (Nat.le_of_ble_eq_true rfl) rfl (fun z2 M2 P2 h2 => ?_)
        obtain ⟨rfl, rfl, rfl⟩ := h2
        refine G_if_eq (tgt := 16) hC dX10_ask_5 (by decide) (by omega) (fun c5 => ?_) (fun c5 => ?_)
        · exact absurd c5 (by omega)
        · refine G_al0 hC dX10_ask_8 ?_
          refine G_il2 hC dX10_ask_9 ?_
          refine G_callVI hC (c_X10_isGuest1 hS hI (by unfold i32r; omega) hj) mv_X10_192 (by first | assumption | rfl) (by omega) (by decide) rfl (by decide) dX10_ask_10 rfl (Nat.le_of_ble_eq_true rfl) rfl (fun z10 M10 P10 h10 => ?_)
          obtain ⟨rfl, rfl, rfl⟩ := h10
          refine G_if_ne (tgt := 18) hC dX10_ask_13 (by decide) (by omega) (fun c13 => ?_) (fun c13 => ?_)
          · refine G_al0 hC dX10_ask_18 ?_
            refine G_callVV hC (c_X10_sits hGr g0 s7) mv_X10_220 (by first | assumption | rfl) (by omega) (by decide) rfl (by decide) dX10_ask_19 rfl (Nat.le_of_ble_eq_true rfl) rfl (fun M19 P19 h19 => ?_)
            obtain ⟨rfl, v0⟩ := h19
            obtain ⟨v1, v2⟩ := si_R hS hK hI v0
            obtain ⟨v3, v4⟩ := siI_M hI v0
            refine G_al0 hC dX10_ask_22 ?_
            refine G_il1 hC dX10_ask_23 ?_
            refine G_il2 hC dX10_ask_24 ?_
            refine G_callVI hC (c_X10_mayAsk (i := g) (j := e) hGr v1 v2 (lieOK_N m1) (by omega) (by omega)) mv_X10_223 (by first | assumption | rfl) (by omega) (by decide) rfl (by decide) dX10_ask_25 rfl (Nat.le_of_ble_eq_true rfl) rfl (fun z25 M25 P25 h25 => ?_)
            obtain ⟨rfl, rfl, rfl⟩ := h25
            rw [canI_0 hcan]
            refine G_if_ne (tgt := 34) hC dX10_ask_28 (by decide) (by omega) (fun c28 => ?_) (fun c28 => ?_)
            · exact absurd rfl c28
            · refine G_bipush hC dX10_ask_31 (by decide) ?_
              exact G_iret hC hQ dX10_ask_33 ⟨_, rfl, rfl, by rw [hask], by rw [hask]; exact v3.mono (by omega), v4⟩
          · exact absurd c13 (by omega)
    · refine G_al0 hC dX10_ask_0 ?_
      refine G_il1 hC dX10_ask_1 ?_
      refine G_callVI hC (c_X10_isGuest1 hS hI (by unfold i32r; omega) hg) mv_X10_192 (by first | assumption | rfl) (by omega) (by decide) rfl (by decide) dX10_ask_2 rfl (Nat.le_of_ble_eq_true rfl) rfl (fun z2 M2 P2 h2 => ?_)
      obtain ⟨rfl, rfl, rfl⟩ := h2
      refine G_if_eq (tgt := 16) hC dX10_ask_5 (by decide) (by omega) (fun c5 => ?_) (fun c5 => ?_)
      · exact absurd c5 (by omega)
      · refine G_al0 hC dX10_ask_8 ?_
        refine G_il2 hC dX10_ask_9 ?_
        refine G_callVI hC (c_X10_isGuest0 hS hI (by unfold i32r; omega) hj) mv_X10_192 (by first | assumption | rfl) (by omega) (by decide) rfl (by decide) dX10_ask_10 rfl (Nat.le_of_ble_eq_true rfl) rfl (fun z10 M10 P10 h10 => ?_)
        obtain ⟨rfl, rfl, rfl⟩ := h10
        refine G_if_ne (tgt := 18) hC dX10_ask_13 (by decide) (by omega) (fun c13 => ?_) (fun c13 => ?_)
        · exact absurd rfl c13
        · refine G_iconst hC dX10_ask_16 ?_
          exact G_iret hC hQ dX10_ask_17 ⟨_, rfl, rfl, by unfold askS; rw [if_neg (fun z => hj z.2)], by unfold askS; rw [if_neg (fun z => hj z.2)]; exact hI.mono (by omega), eqx.refl⟩
  · refine G_al0 hC dX10_ask_0 ?_
    refine G_il1 hC dX10_ask_1 ?_
    refine G_callVI hC (c_X10_isGuest0 hS hI (by unfold i32r; omega) hg) mv_X10_192 (by first | assumption | rfl) (by omega) (by decide) rfl (by decide) dX10_ask_2 rfl (Nat.le_of_ble_eq_true rfl) rfl (fun z2 M2 P2 h2 => ?_)
    obtain ⟨rfl, rfl, rfl⟩ := h2
    refine G_if_eq (tgt := 16) hC dX10_ask_5 (by decide) (by omega) (fun c5 => ?_) (fun c5 => ?_)
    · refine G_iconst hC dX10_ask_16 ?_
      exact G_iret hC hQ dX10_ask_17 ⟨_, rfl, rfl, by unfold askS; rw [if_neg (fun z => hg z.1)], by unfold askS; rw [if_neg (fun z => hg z.1)]; exact hI.mono (by omega), eqx.refl⟩
    · exact absurd rfl c5
set_option maxHeartbeats 4000000 in
set_option maxRecDepth 100000 in
theorem c_X10_areGlad {l : Launch} {T : TB} {W f : Nat → Nat} {i j : Nat} {M : Mem} {P : PMem} (hGr : GrM P) (hk : SkR M T W) (hS : SpR M (tn T) f) (hf : lieN (tn T) f) (hi : i < tn T) (hj : j < tn T) : CtI l yX10_areGlad cX10_areGlad 3 (some .boolean) 1 22 77 [vR 45, vI i, vI j] M P (pI (lik T f i j) M P) := by
  refine Ct_of (own := RX10) (L := [vR 45, vI i, vI j]) (by decide) rfl rfl (Nat.le_of_ble_eq_true rfl) (fun X Y hl hC hQ => ?_)
  obtain ⟨⟨k0, k2⟩, ⟨o2, o6, or1, oT⟩, kg⟩ := id hk
  have w1 := wo_le9 (d := f i) hk.2.1 hi
  have w2 := wo_le9 (d := f j) hk.2.1 hi
  have w3 := wo_le9 (d := f i) hk.2.1 hj
  have w4 := wo_le9 (d := f j) hk.2.1 hj
  refine G_al0 hC dX10_areGlad_0 ?_
  refine G_il1 hC dX10_areGlad_1 ?_
  refine G_al0 hC dX10_areGlad_2 ?_
  refine G_getR hC fl_X10_61 (by first | assumption | rfl) (by omega) (by first | assumption | exact hGr _ _ rfl) dX10_areGlad_3 ?_
  refine G_il2 hC dX10_areGlad_6 ?_
  refine G_ialoadN (n := j) hC (by first | assumption | rfl) (by omega) (by omega) (by omega) dX10_areGlad_7 ?_
  rw [hS j hj]
  refine G_callVI hC (c_X10_likes hGr hk hi (hf j hj)) mv_X10_209 (by first | assumption | rfl) (by omega) (by decide) rfl (by decide) dX10_areGlad_8 rfl (Nat.le_of_ble_eq_true rfl) rfl (fun z8 M8 P8 h8 => ?_)
  obtain ⟨rfl, rfl, rfl⟩ := h8
  refine G_al0 hC dX10_areGlad_11 ?_
  refine G_il1 hC dX10_areGlad_12 ?_
  refine G_al0 hC dX10_areGlad_13 ?_
  refine G_getR hC fl_X10_61 (by first | assumption | rfl) (by omega) (by first | assumption | exact hGr _ _ rfl) dX10_areGlad_14 ?_
  refine G_il1 hC dX10_areGlad_17 ?_
  refine G_ialoadN (n := i) hC (by first | assumption | rfl) (by omega) (by omega) (by omega) dX10_areGlad_18 ?_
  rw [hS i hi]
  refine G_callVI hC (c_X10_likes hGr hk hi (hf i hi)) mv_X10_209 (by first | assumption | rfl) (by omega) (by decide) rfl (by decide) dX10_areGlad_19 rfl (Nat.le_of_ble_eq_true rfl) rfl (fun z19 M19 P19 h19 => ?_)
  obtain ⟨rfl, rfl, rfl⟩ := h19
  refine G_icmp_le (tgt := 54) hC dX10_areGlad_22 (by decide) (by omega) (by omega) (fun c22 => ?_) (fun c22 => ?_)
  · refine G_iconst hC dX10_areGlad_54 ?_
    exact G_zret hC hQ dX10_areGlad_55 (by omega) ⟨_, rfl, by
  unfold lik
  first
    | (rw [if_pos (by omega)]; rfl)
    | (rw [if_neg (by omega)]; rfl), rfl, rfl⟩
  · refine G_al0 hC dX10_areGlad_25 ?_
    refine G_il2 hC dX10_areGlad_26 ?_
    refine G_al0 hC dX10_areGlad_27 ?_
    refine G_getR hC fl_X10_61 (by first | assumption | rfl) (by omega) (by first | assumption | exact hGr _ _ rfl) dX10_areGlad_28 ?_
    refine G_il1 hC dX10_areGlad_31 ?_
    refine G_ialoadN (n := i) hC (by first | assumption | rfl) (by omega) (by omega) (by omega) dX10_areGlad_32 ?_
    rw [hS i hi]
    refine G_callVI hC (c_X10_likes hGr hk hj (hf i hi)) mv_X10_209 (by first | assumption | rfl) (by omega) (by decide) rfl (by decide) dX10_areGlad_33 rfl (Nat.le_of_ble_eq_true rfl) rfl (fun z33 M33 P33 h33 => ?_)
    obtain ⟨rfl, rfl, rfl⟩ := h33
    refine G_al0 hC dX10_areGlad_36 ?_
    refine G_il2 hC dX10_areGlad_37 ?_
    refine G_al0 hC dX10_areGlad_38 ?_
    refine G_getR hC fl_X10_61 (by first | assumption | rfl) (by omega) (by first | assumption | exact hGr _ _ rfl) dX10_areGlad_39 ?_
    refine G_il2 hC dX10_areGlad_42 ?_
    refine G_ialoadN (n := j) hC (by first | assumption | rfl) (by omega) (by omega) (by omega) dX10_areGlad_43 ?_
    rw [hS j hj]
    refine G_callVI hC (c_X10_likes hGr hk hj (hf j hj)) mv_X10_209 (by first | assumption | rfl) (by omega) (by decide) rfl (by decide) dX10_areGlad_44 rfl (Nat.le_of_ble_eq_true rfl) rfl (fun z44 M44 P44 h44 => ?_)
    obtain ⟨rfl, rfl, rfl⟩ := h44
    refine G_icmp_le (tgt := 54) hC dX10_areGlad_47 (by decide) (by omega) (by omega) (fun c47 => ?_) (fun c47 => ?_)
    · refine G_iconst hC dX10_areGlad_54 ?_
      exact G_zret hC hQ dX10_areGlad_55 (by omega) ⟨_, rfl, by
  unfold lik
  first
    | (rw [if_pos (by omega)]; rfl)
    | (rw [if_neg (by omega)]; rfl), rfl, rfl⟩
    · refine G_iconst hC dX10_areGlad_50 ?_
      refine G_goto (tgt := 55) hC dX10_areGlad_51 (by decide) ?_
      exact G_zret hC hQ dX10_areGlad_55 (by omega) ⟨_, rfl, by
  unfold lik
  first
    | (rw [if_pos (by omega)]; rfl)
    | (rw [if_neg (by omega)]; rfl), rfl, rfl⟩
set_option maxHeartbeats 4000000 in
set_option maxRecDepth 100000 in
theorem c_X10_liked {l : Launch} {c : Nat} {S : AS} {k : Int} {M : Mem} {P : PMem} (hS : SOK c S) (hK : TOK S) (hI : MIv c M P S) (hk0 : i32r k) : CtI l yX10_liked cX10_liked 6 (some .int) 2 44 77 [vR 45, vI k] M P (mR c M P S (likedS S k)) := by
  refine Ct_of (own := RX10) (L := [vR 45, vI k, vX 1, vX 1, vX 1, vX 1]) (by decide) rfl rfl (Nat.le_of_ble_eq_true rfl) (fun X Y hl hC hQ => ?_)
  obtain ⟨hGr, ⟨⟨g0, g1, g2, g3, g4⟩, g5⟩, ⟨g6, g7⟩, g8, g9, ⟨g10, g11⟩, g12⟩ := id hI
  obtain ⟨s1, ⟨s2, s3, s4, s5, s6, s7, s8⟩, ⟨s9, s10, s11, s12⟩, s13, s14, s15, s16, s17, s18⟩ := id hS
  obtain ⟨m1, m2, m3, m4⟩ := id s14
  unfold i32r at *
  by_cases hy : 0 ≤ k ∧ k ≤ 1
  · have hmain : ∀ (M12 : Mem) (x2 x3 x4 x5 : AV), siI M M12 (tn (sT S)) (6 * tn (sT S)) → G X Y 15 [vR 45, vI k, x2, x3, x4, x5] [] M12 P := by
     intro M12 x2 x3 x4 x5 v0
     obtain ⟨v1, v2⟩ := si_R hS hK hI v0
     obtain ⟨v3, v4⟩ := siI_M hI v0
     have y0 := v1.1.1
     have hend : ∀ (a b : Int) (x4 x5 : AV), 0 ≤ a → a ≤ 1000 → (a, b) = lkI (sT S) (sNow S).1 (tn (sT S)) 0 (0, -4) → G X Y 90 [vR 45, vI k, vI a, vI b, x4, x5] [] M12 P := by
      intro a b x4 x5 ha1 ha2 hX
      have hX := hX.symm
      refine G_il1 hC dX10_liked_90 ?_
      refine G_if_ne (tgt := 98) hC dX10_liked_91 (by decide) (by omega) (fun c91 => ?_) (fun c91 => ?_)
      · refine G_il3 hC dX10_liked_98 ?_
        exact G_iret hC hQ dX10_liked_99 ⟨_, rfl, rfl, by unfold likedS; rw [if_pos hy]; first | (rw [if_pos (by omega), hX]; done) | (rw [if_neg (by omega), hX]; done), v3, v4⟩
      · refine G_il2 hC dX10_liked_94 ?_
        refine G_goto (tgt := 99) hC dX10_liked_95 (by decide) ?_
        exact G_iret hC hQ dX10_liked_99 ⟨_, rfl, rfl, by unfold likedS; rw [if_pos hy]; first | (rw [if_pos (by omega), hX]; done) | (rw [if_neg (by omega), hX]; done), v3, v4⟩
     have hlJ : ∀ (i : Nat) (s2 : Int × Int), i < tn (sT S) → (∀ (iv a b : Int) (x5 : AV), iv = (i : Int) + 1 → (a, b) = lkJ (sT S) (sNow S).1 i (tn (sT S) - (i + 1)) (i + 1) s2 → 0 ≤ a → a ≤ s2.1 + 6 → G X Y 23 [vR 45, vI k, vI a, vI b, vI iv, x5] [] M12 P) → ∀ (c j : Nat) (iv jv a b : Int), j + c = tn (sT S) → i < j → iv = (i : Int) → jv = (j : Int) → 0 ≤ a → a + c ≤ s2.1 + 6 → s2.1 ≤ 500 → lkJ (sT S) (sNow S).1 i c j (a, b) = lkJ (sT S) (sNow S).1 i (tn (sT S) - (i + 1)) (i + 1) s2 → G X Y 38 [vR 45, vI k, vI a, vI b, vI iv, vI jv] [] M12 P := by
      intro i s2 hi hnext c
      induction c with
      | zero =>
        intro j iv jv a b hj hij e1 e2 ha1 ha2 hs2 he
        subst e1; subst e2
        refine G_il5 hC dX10_liked_38 ?_
        refine G_al0 hC dX10_liked_40 ?_
        refine G_getI hC fl_X10_116 (by first | assumption | rfl) (by omega) dX10_liked_41 ?_
        rw [y0]
        refine G_icmp_ge (tgt := 84) hC dX10_liked_44 (by decide) (by omega) (by omega) (fun c44 => ?_) (fun c44 => ?_)
        · refine G_inc4 hC dX10_liked_84 rfl ?_
          refine G_goto (tgt := 23) hC dX10_liked_87 (by decide) ?_
          exact hnext _ _ _ _ rfl he (by omega) (by omega)
        · exact absurd c44 (by omega)
      | succ c ih =>
        intro j iv jv a b hj hij e1 e2 ha1 ha2 hs2 he
        subst e1; subst e2
        have hlk : lik (sT S) (sNow S).1 i j = 0 ∨ lik (sT S) (sNow S).1 i j = 1 := by unfold lik; split <;> omega
        replace he : lkJ (sT S) (sNow S).1 i c (j + 1) (if lik (sT S) (sNow S).1 i j = 1 then (a + 1, if a = 0 then 10 * (i : Int) + j else b) else (a, b)) = lkJ (sT S) (sNow S).1 i (tn (sT S) - (i + 1)) (i + 1) s2 := he
        rcases hlk with hlk | hlk
        · rw [if_neg (by omega)] at he
          refine G_il5 hC dX10_liked_38 ?_
          refine G_al0 hC dX10_liked_40 ?_
          refine G_getI hC fl_X10_116 (by first | assumption | rfl) (by omega) dX10_liked_41 ?_
          rw [y0]
          refine G_icmp_ge (tgt := 84) hC dX10_liked_44 (by decide) (by omega) (by omega) (fun c44 => ?_) (fun c44 => ?_)
          · exact absurd c44 (by omega)
          · refine G_al0 hC dX10_liked_47 ?_
            refine G_il4 hC dX10_liked_48 ?_
            refine G_il5 hC dX10_liked_50 ?_
            refine G_callVI hC (c_X10_areGlad hGr v1 v2 (lieOK_N m1) hi (by omega)) mv_X10_296 (by first | assumption | rfl) (by omega) (by decide) rfl (by decide) dX10_liked_52 rfl (Nat.le_of_ble_eq_true rfl) rfl (fun z52 M52 P52 h52 => ?_)
            obtain ⟨rfl, rfl, rfl⟩ := h52
            rw [hlk]
            refine G_if_eq (tgt := 78) hC dX10_liked_55 (by decide) (by omega) (fun c55 => ?_) (fun c55 => ?_)
            · refine G_inc5 hC dX10_liked_78 rfl ?_
              refine G_goto (tgt := 38) hC dX10_liked_81 (by decide) ?_
              exact ih (j + 1) _ _ _ _ (by omega) (by omega) rfl (by omega) (by omega) (by omega) hs2 he
            · exact absurd rfl c55
        · rw [if_pos hlk] at he
          refine G_il5 hC dX10_liked_38 ?_
          refine G_al0 hC dX10_liked_40 ?_
          refine G_getI hC fl_X10_116 (by first | assumption | rfl) (by omega) dX10_liked_41 ?_
          rw [y0]
          refine G_icmp_ge (tgt := 84) hC dX10_liked_44 (by decide) (by omega) (by omega) (fun c44 => ?_) (fun c44 => ?_)
          · exact absurd c44 (by omega)
          · refine G_al0 hC dX10_liked_47 ?_
            refine G_il4 hC dX10_liked_48 ?_
            refine G_il5 hC dX10_liked_50 ?_
            refine G_callVI hC (c_X10_areGlad hGr v1 v2 (lieOK_N m1) hi (by omega)) mv_X10_296 (by first | assumption | rfl) (by omega) (by decide) rfl (by decide) dX10_liked_52 rfl (Nat.le_of_ble_eq_true rfl) rfl (fun z52 M52 P52 h52 => ?_)
            obtain ⟨rfl, rfl, rfl⟩ := h52
            rw [hlk]
            refine G_if_eq (tgt := 78) hC dX10_liked_55 (by decide) (by omega) (fun c55 => ?_) (fun c55 => ?_)
            · exact absurd c55 (by omega)
            · refine G_il2 hC dX10_liked_58 ?_
              refine G_if_ne (tgt := 73) hC dX10_liked_59 (by decide) (by omega) (fun c59 => ?_) (fun c59 => ?_)
              · refine G_il3 hC dX10_liked_73 ?_
                refine G_is3 hC dX10_liked_74 rfl ?_
                refine G_inc2 hC dX10_liked_75 rfl ?_
                refine G_inc5 hC dX10_liked_78 rfl ?_
                refine G_goto (tgt := 38) hC dX10_liked_81 (by decide) ?_
                exact ih (j + 1) _ _ _ _ (by omega) (by omega) rfl (by omega) (by omega) (by omega) hs2 (by rw [← he]; congr 1; first | (rw [if_pos (by omega)]; done) | (rw [if_neg (by omega)]; done))
              · refine G_bipush hC dX10_liked_62 (by decide) ?_
                refine G_il4 hC dX10_liked_64 ?_
                refine G_imul hC dX10_liked_66 ?_
                refine G_il5 hC dX10_liked_67 ?_
                refine G_iadd hC dX10_liked_69 ?_
                refine G_goto (tgt := 74) hC dX10_liked_70 (by decide) ?_
                refine G_is3 hC dX10_liked_74 rfl ?_
                refine G_inc2 hC dX10_liked_75 rfl ?_
                refine G_inc5 hC dX10_liked_78 rfl ?_
                refine G_goto (tgt := 38) hC dX10_liked_81 (by decide) ?_
                exact ih (j + 1) _ _ _ _ (by omega) (by omega) rfl (by omega) (by omega) (by omega) hs2 (by rw [← he]; congr 1; first | (rw [if_pos (by omega)]; done) | (rw [if_neg (by omega)]; done))
     have hlI : ∀ (c i : Nat) (iv a b : Int) (x5 : AV), i + c = tn (sT S) → iv = (i : Int) → 0 ≤ a → a ≤ 6 * i → lkI (sT S) (sNow S).1 c i (a, b) = lkI (sT S) (sNow S).1 (tn (sT S)) 0 (0, -4) → G X Y 23 [vR 45, vI k, vI a, vI b, vI iv, x5] [] M12 P := by
      intro c
      induction c with
      | zero =>
        intro i iv a b x5 hi e1 ha1 ha2 he
        subst e1
        refine G_il4 hC dX10_liked_23 ?_
        refine G_al0 hC dX10_liked_25 ?_
        refine G_getI hC fl_X10_116 (by first | assumption | rfl) (by omega) dX10_liked_26 ?_
        rw [y0]
        refine G_icmp_ge (tgt := 90) hC dX10_liked_29 (by decide) (by omega) (by omega) (fun c29 => ?_) (fun c29 => ?_)
        · exact hend _ _ _ _ (by omega) (by omega) he
        · exact absurd c29 (by omega)
      | succ c ih =>
        intro i iv a b x5 hi e1 ha1 ha2 he
        subst e1
        replace he : lkI (sT S) (sNow S).1 c (i + 1) (lkJ (sT S) (sNow S).1 i (tn (sT S) - (i + 1)) (i + 1) (a, b)) = lkI (sT S) (sNow S).1 (tn (sT S)) 0 (0, -4) := he
        refine G_il4 hC dX10_liked_23 ?_
        refine G_al0 hC dX10_liked_25 ?_
        refine G_getI hC fl_X10_116 (by first | assumption | rfl) (by omega) dX10_liked_26 ?_
        rw [y0]
        refine G_icmp_ge (tgt := 90) hC dX10_liked_29 (by decide) (by omega) (by omega) (fun c29 => ?_) (fun c29 => ?_)
        · exact absurd c29 (by omega)
        · refine G_il4 hC dX10_liked_32 ?_
          refine G_iconst hC dX10_liked_34 ?_
          refine G_iadd hC dX10_liked_35 ?_
          refine G_is5 hC dX10_liked_36 rfl ?_
          exact hlJ i (a, b) (by omega) (fun iv a2 b2 x5 e1 e2 q1 q2 => ih (i + 1) _ _ _ _ (by omega) e1 q1 (by have q3 : a2 ≤ a + 6 := q2; omega) (by rw [e2]; exact he)) (tn (sT S) - (i + 1)) (i + 1) _ _ _ _ (by omega) (by omega) rfl (by omega) ha1 (by show a + _ ≤ a + 6; omega) (by show a ≤ 500; omega) rfl
     refine G_iconst hC dX10_liked_15 ?_
     refine G_is2 hC dX10_liked_16 rfl ?_
     refine G_bipush hC dX10_liked_17 (by decide) ?_
     refine G_is3 hC dX10_liked_19 rfl ?_
     refine G_iconst hC dX10_liked_20 ?_
     refine G_is4 hC dX10_liked_21 rfl ?_
     exact hlI (tn (sT S)) 0 _ _ _ _ (by omega) rfl (by omega) (by omega) rfl
    refine G_il1 hC dX10_liked_0 ?_
    refine G_iconst hC dX10_liked_1 ?_
    refine G_iconst hC dX10_liked_2 ?_
    refine G_callSI hC (c_in1 (by unfold i32r; omega) (by unfold i32r; omega) (by unfold i32r; omega) hy) ms_X10_119 (by decide) rfl (by decide) dX10_liked_3 rfl (Nat.le_of_ble_eq_true rfl) rfl (fun z3 M3 P3 h3 => ?_)
    obtain ⟨rfl, rfl, rfl⟩ := h3
    refine G_if_ne (tgt := 11) hC dX10_liked_6 (by decide) (by omega) (fun c6 => ?_) (fun c6 => ?_)
    · refine G_al0 hC dX10_liked_11 ?_
      refine G_callVV hC (c_X10_sits hGr g0 s7) mv_X10_220 (by first | assumption | rfl) (by omega) (by decide) rfl (by decide) dX10_liked_12 rfl (Nat.le_of_ble_eq_true rfl) rfl (fun M12 P12 h12 => ?_)
      obtain ⟨rfl, v0⟩ := h12
      exact hmain _ _ _ _ _ v0
    · exact absurd c6 (by omega)
  · refine G_il1 hC dX10_liked_0 ?_
    refine G_iconst hC dX10_liked_1 ?_
    refine G_iconst hC dX10_liked_2 ?_
    refine G_callSI hC (c_in0 (by unfold i32r; omega) (by unfold i32r; omega) (by unfold i32r; omega) hy) ms_X10_119 (by decide) rfl (by decide) dX10_liked_3 rfl (Nat.le_of_ble_eq_true rfl) rfl (fun z3 M3 P3 h3 => ?_)
    obtain ⟨rfl, rfl, rfl⟩ := h3
    refine G_if_ne (tgt := 11) hC dX10_liked_6 (by decide) (by omega) (fun c6 => ?_) (fun c6 => ?_)
    · exact absurd rfl c6
    · refine G_iconst hC dX10_liked_9 ?_
      exact G_iret hC hQ dX10_liked_10 ⟨_, rfl, rfl, by unfold likedS; rw [if_neg hy], hI, eqx.refl⟩
