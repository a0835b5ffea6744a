/-! the reference remembers, keeps, draws -/
def puI (M M1 : Mem) (g : Nat) : Prop := (∀ b, b < g → M1 50 b = M 63 b ∧ M1 51 b = bOr (M 51 b) (hvI (M 63 b))) ∧ (∀ b, g ≤ b → M1 51 b = M 51 b) ∧ ∀ a, a ≠ 50 → a ≠ 51 → ∀ b, M1 a b = M a b
theorem puI_s {M M1 : Mem} {g : Nat} {w : Int} (h : puI M M1 g) (hw : w = bOr (M 51 g) (hvI (M 63 g))) : puI M (upM (upM M1 50 g (M 63 g)) 51 g w) (g + 1) := by
  obtain ⟨h1, h2, h3⟩ := h
  refine ⟨fun b hb => ?_, fun b hb => by rw [upM_nej (by omega), upM_ne (by omega)]; exact h2 b (by omega), fun a h50 h51 b => by rw [upM_ne h51, upM_ne h50]; exact h3 a h50 h51 b⟩
  by_cases q : b = g
  · subst q
    exact ⟨by simp [upM], by simp [upM, hw]⟩
  · obtain ⟨c1, c2⟩ := h1 b (by omega)
    exact ⟨by simp [upM, q, c1], by simp [upM, q, c2]⟩
def puQ (M : Mem) (P : PMem) (n : Nat) : Mem → PMem → Prop := fun M' P' => P = P' ∧ puI M M' n
set_option maxHeartbeats 4000000 in
set_option maxRecDepth 100000 in
theorem c_X10_puts {l : Launch} {n : Nat} {M : Mem} {P : PMem} (hGr : GrM P) (hn : M 45 0 = (n : Int)) (hn6 : n ≤ 6) (hnv : ∀ g, g < n → -1 ≤ M 63 g ∧ M 63 g ≤ 6) : CtV l yX10_puts cX10_puts 2 none 0 0 77 [vR 45] M P (puQ M P n) := by
  refine Ct_of (own := RX10) (L := [vR 45, vX 1]) (by decide) rfl rfl (Nat.le_of_ble_eq_true rfl) (fun X Y hl hC hQ => ?_)
  have hlp : ∀ (c g : Nat) (gv : Int) (M1 : Mem), g + c = n → gv = (g : Int) → puI M M1 g → G X Y 2 [vR 45, vI gv] [] M1 P := by
    intro c
    induction c with
    | zero =>
      intro g gv M1 hg e1 hL
      subst e1
      have : g = n := by omega
      subst this
      have h0 : M1 45 0 = (g : Int) := by rw [hL.2.2 45 (by omega) (by omega)]; exact hn
      refine G_il1 hC dX10_puts_2 ?_
      refine G_al0 hC dX10_puts_3 ?_
      refine G_getI hC fl_X10_116 (by first | assumption | rfl) (by omega) dX10_puts_4 ?_
      rw [h0]
      refine G_icmp_ge (tgt := 59) hC dX10_puts_7 (by decide) (by omega) (by omega) (fun c7 => ?_) (fun c7 => ?_)
      · exact G_vret hC hQ dX10_puts_59 ⟨rfl, rfl, hL⟩
      · exact absurd c7 (by omega)
    | succ c ih =>
      intro g gv M1 hg e1 hL
      subst e1
      have h0 : M1 45 0 = (n : Int) := by rw [hL.2.2 45 (by omega) (by omega)]; exact hn
      have x63 := hL.2.2 63 (by omega) (by omega) g
      have x51 := hL.2.1 g (Nat.le_refl _)
      have hr := hnv g (by omega)
      refine G_il1 hC dX10_puts_2 ?_
      refine G_al0 hC dX10_puts_3 ?_
      refine G_getI hC fl_X10_116 (by first | assumption | rfl) (by omega) dX10_puts_4 ?_
      rw [h0]
      refine G_icmp_ge (tgt := 59) hC dX10_puts_7 (by decide) (by omega) (by omega) (fun c7 => ?_) (fun c7 => ?_)
      · exact absurd c7 (by omega)
      · refine G_al0 hC dX10_puts_10 ?_
        refine G_getR hC fl_X10_22 (by first | assumption | rfl) (by omega) (by first | assumption | exact hGr _ _ rfl) dX10_puts_11 ?_
        refine G_il1 hC dX10_puts_14 ?_
        refine G_al0 hC dX10_puts_15 ?_
        refine G_getR hC fl_X10_61 (by first | assumption | rfl) (by omega) (by first | assumption | exact hGr _ _ rfl) dX10_puts_16 ?_
        refine G_il1 hC dX10_puts_19 ?_
        refine G_ialoadN (n := g) hC (by first | assumption | rfl) (by omega) (by omega) (by omega) dX10_puts_20 ?_
        rw [x63]
        refine G_iastoreN (n := g) hC (by first | assumption | rfl) (by omega) (by omega) (by omega) dX10_puts_21 ?_
        refine G_al0 hC dX10_puts_22 ?_
        refine G_getR hC fl_X10_25 (by first | assumption | rfl) (by omega) (by first | assumption | exact hGr _ _ rfl) dX10_puts_23 ?_
        refine G_il1 hC dX10_puts_26 ?_
        refine G_dup2 hC dX10_puts_27 rfl rfl ?_
        refine G_ialoadN (n := g) hC (by first | assumption | rfl) (by omega) (by omega) (by omega) dX10_puts_28 ?_
        rw [upM_ne (by omega), x51]
        refine G_al0 hC dX10_puts_29 ?_
        refine G_getR hC fl_X10_61 (by first | assumption | rfl) (by omega) (by first | assumption | exact hGr _ _ rfl) dX10_puts_30 ?_
        refine G_il1 hC dX10_puts_33 ?_
        refine G_ialoadN (n := g) hC (by first | assumption | rfl) (by omega) (by omega) (by omega) dX10_puts_34 ?_
        rw [upM_ne (by omega), x63]
        refine G_iconst hC dX10_puts_35 ?_
        refine G_icmp_ne (tgt := 43) hC dX10_puts_36 (by decide) (by omega) (by omega) (fun c36 => ?_) (fun c36 => ?_)
        · refine G_iconst hC dX10_puts_43 ?_
          refine G_al0 hC dX10_puts_44 ?_
          refine G_getR hC fl_X10_61 (by first | assumption | rfl) (by omega) (by first | assumption | exact hGr _ _ rfl) dX10_puts_45 ?_
          refine G_il1 hC dX10_puts_48 ?_
          refine G_ialoadN (n := g) hC (by first | assumption | rfl) (by omega) (by omega) (by omega) dX10_puts_49 ?_
          rw [upM_ne (by omega), x63]
          refine G_ishl hC dX10_puts_50 ?_
          refine G_ior hC dX10_puts_51 ?_
          refine G_iastoreN (n := g) hC (by first | assumption | rfl) (by omega) (by omega) (by omega) dX10_puts_52 ?_
          refine G_inc1 hC dX10_puts_53 rfl ?_
          refine G_goto (tgt := 2) hC dX10_puts_56 (by decide) ?_
          exact ih (g + 1) _ _ (by omega) (by omega) (puI_s hL (by
            unfold hvI
            first
              | (rw [if_pos (by omega)]; done)
              | (rw [if_neg (by omega)]; done)))
        · refine G_iconst hC dX10_puts_39 ?_
          refine G_goto (tgt := 51) hC dX10_puts_40 (by decide) ?_
          refine G_ior hC dX10_puts_51 ?_
          refine G_iastoreN (n := g) hC (by first | assumption | rfl) (by omega) (by omega) (by omega) dX10_puts_52 ?_
          refine G_inc1 hC dX10_puts_53 rfl ?_
          refine G_goto (tgt := 2) hC dX10_puts_56 (by decide) ?_
          exact ih (g + 1) _ _ (by omega) (by omega) (puI_s hL (by
            unfold hvI
            first
              | (rw [if_pos (by omega)]; done)
              | (rw [if_neg (by omega)]; done)))
  refine G_iconst hC dX10_puts_0 ?_
  refine G_is1 hC dX10_puts_1 rfl ?_
  exact hlp n 0 _ _ (by omega) rfl ⟨fun b hb => by omega, fun _ _ => rfl, fun _ _ _ _ => rfl⟩
/-- one more moment behind the others -/
def coI (M M1 : Mem) (t u g : Nat) : Prop := (∀ b, b < g → M1 t (6 * u + b) = M 50 b ∧ M1 (t + 1) (6 * u + b) = M 51 b) ∧ (∀ b, ¬ (6 * u ≤ b ∧ b < 6 * u + g) → M1 t b = M t b ∧ M1 (t + 1) b = M (t + 1) b) ∧ ∀ a, a ≠ t → a ≠ t + 1 → ∀ b, M1 a b = M a b
theorem coI_0 {M : Mem} {t u : Nat} : coI M M t u 0 := ⟨fun b hb => by omega, fun _ _ => ⟨rfl, rfl⟩, fun _ _ _ _ => rfl⟩
theorem coI_s {M M1 : Mem} {t u g : Nat} (h : coI M M1 t u g) : coI M (upM (upM M1 t (6 * u + g) (M 50 g)) (t + 1) (6 * u + g) (M 51 g)) t u (g + 1) := by
  obtain ⟨h1, h2, h3⟩ := h
  refine ⟨fun b hb => ?_, fun b hb => ?_, fun a ht ht1 b => by rw [upM_ne ht1, upM_ne ht]; exact h3 a ht ht1 b⟩
  · rw [upM_ne (show t ≠ t + 1 by omega)]
    by_cases q : b = g
    · subst q
      rw [upM_self, upM_self]; exact ⟨rfl, rfl⟩
    · rw [upM_nej (by omega), upM_nej (by omega), upM_ne (show t + 1 ≠ t by omega)]; exact h1 b (by omega)
  · rw [upM_ne (show t ≠ t + 1 by omega), upM_nej (by omega), upM_nej (by omega), upM_ne (show t + 1 ≠ t by omega)]; exact h2 b (by omega)
theorem StM_push {M M1 : Mem} {n t sl : Nat} {ms : List MO} {x : MO} (hn : n ≤ 6) (ht : 46 ≤ t) (hsl : sl ≠ 11) (h : StM M n t sl ms) (hc : coI M M1 t ms.length n) (hx : (∀ g, g < n → M 50 g = nv (x.1 g) ∧ M 51 g = (x.2.1 g : Int)) ∧ M 45 11 = (x.2.2 : Int)) : StM (upM (upM M1 (t + 2) ms.length (M 45 11)) 45 sl ((ms.length : Int) + 1)) n t sl (ms ++ [x]) := by
  obtain ⟨a1, a2⟩ := h
  obtain ⟨c1, c2, c3⟩ := hc
  refine ⟨by rw [upM_self]; simp, fun k y hk => ?_⟩
  rw [upM_ne (show t + 2 ≠ 45 by omega)]
  rcases Nat.lt_trichotomy k ms.length with q | q | q
  · rw [List.getElem?_append_left q] at hk
    obtain ⟨b1, b2⟩ := a2 k y hk
    refine ⟨fun g hg => ?_, ?_⟩
    · rw [upM_ne (by omega), upM_ne (by omega), upM_ne (by omega), upM_ne (by omega), (c2 _ (by omega)).1, (c2 _ (by omega)).2]
      exact b1 g hg
    · rw [upM_nej (by omega), c3 _ (by omega) (by omega)]; exact b2
  · subst q
    rw [List.getElem?_append_right (Nat.le_refl _)] at hk
    simp at hk
    subst hk
    refine ⟨fun g hg => ?_, ?_⟩
    · rw [upM_ne (by omega), upM_ne (by omega), upM_ne (by omega), upM_ne (by omega), (c1 g hg).1, (c1 g hg).2]
      exact hx.1 g hg
    · rw [upM_self]; exact hx.2
  · rw [List.getElem?_append_right (by omega), List.getElem?_eq_none (by simp; omega)] at hk
    cases hk
def sSt (t : Nat) : Nat → Prop := fun a => a = t ∨ a = t + 1 ∨ a = t + 2 ∨ a = 45
/-- the latest moment taken back -/
def unI (M M1 : Mem) (t u g : Nat) : Prop := (∀ b, b < g → M1 50 b = M t (6 * u + b) ∧ M1 51 b = M (t + 1) (6 * u + b)) ∧ ∀ a, a ≠ 50 → a ≠ 51 → ∀ b, M1 a b = M a b
theorem unI_s {M M1 : Mem} {t u g : Nat} (h : unI M M1 t u g) : unI M (upM (upM M1 50 g (M t (6 * u + g))) 51 g (M (t + 1) (6 * u + g))) t u (g + 1) := by
  obtain ⟨h1, h3⟩ := h
  refine ⟨fun b hb => ?_, fun a h50 h51 b => by rw [upM_ne h51, upM_ne h50]; exact h3 a h50 h51 b⟩
  by_cases q : b = g
  · subst q
    exact ⟨by simp [upM], by simp [upM]⟩
  · obtain ⟨c1, c2⟩ := h1 b (by omega)
    exact ⟨by simp [upM, q, c1], by simp [upM, q, c2]⟩
theorem StM_short {M : Mem} {n t sl : Nat} {ms : List MO} {x : MO} {M' : Mem} (h : StM M n t sl (ms ++ [x])) (e : ∀ a, a = t ∨ a = t + 1 ∨ a = t + 2 → ∀ b, M' a b = M a b) (e45 : M' 45 sl = (ms.length : Int)) : StM M' n t sl ms := by
  obtain ⟨a1, a2⟩ := h
  refine ⟨e45, fun k y hk => ?_⟩
  have hkl := (List.getElem?_eq_some_iff.mp hk).1
  obtain ⟨b1, b2⟩ := a2 k y (by rw [List.getElem?_append_left hkl]; exact hk)
  exact ⟨fun g hg => by rw [e t (by omega), e (t + 1) (by omega)]; exact b1 g hg, by rw [e (t + 2) (by omega)]; exact b2⟩
set_option maxHeartbeats 4000000 in
set_option maxRecDepth 100000 in
theorem c_X10_keep {l : Launch} {c : Nat} {S : AS} {M : Mem} {P : PMem} (hS : SOK c S) (hI : MIv c M P S)  : CtI l yX10_keep cX10_keep 2 (some .int) 0 0 77 [vR 45] M P (mR c M P (keepS S).2 (keepS S).1) := by
  refine Ct_of (own := RX10) (L := [vR 45, vX 1]) (by decide) rfl rfl (Nat.le_of_ble_eq_true rfl) (fun X Y hl hC hQ => ?_)
  obtain ⟨hGr, ⟨⟨g0, g1, g2, g3, g4⟩, g5⟩, ⟨g6, g7⟩, g8, g9, ⟨g10, g11⟩, g12⟩ := id hI
  obtain ⟨s1, ⟨s2, s3, s4, s5, s6, s7, s8⟩, ⟨s9, s10, s11, s12⟩, s13, s14, s15, s16, s17, s18⟩ := id hS
  obtain ⟨m1, m2, m3, m4⟩ := id s14
  by_cases hk : (sKe S).length < 2
  · have hlp : ∀ (c2 g : Nat) (gv : Int) (M1 : Mem), g + c2 = tn (sT S) → gv = (g : Int) → coI M M1 55 (sKe S).length g → G X Y 13 [vR 45, vI gv] [] M1 P := by
      intro c2
      induction c2 with
      | zero =>
        intro g gv M1 hg e1 hL
        subst e1
        have hgn : g = tn (sT S) := by omega
        subst hgn
        have h45 := hL.2.2 45 (by omega) (by omega)
        have hpush := StM_push (x := sNow S) s7 (by omega) (by omega) g9 hL ⟨g6, g7⟩
        have hks : keepS S = (((sKe S).length : Int) + 1, (S.1, S.2.1, sNow S, sUn S, sKe S ++ [sNow S])) := by unfold keepS; rw [if_pos hk]
        have eo : ∀ a, a ≠ 55 → a ≠ 56 → a ≠ 57 → a ≠ 45 → ∀ b, upM (upM M1 57 (sKe S).length (M 45 11)) 45 16 (((sKe S).length : Int) + 1) a b = M a b := fun a h1 h2 h3 h4 b => by rw [upM_ne h4, upM_ne h3]; exact hL.2.2 a h1 h2 b
        have e4 : ∀ b, b ≠ 16 → upM (upM M1 57 (sKe S).length (M 45 11)) 45 16 (((sKe S).length : Int) + 1) 45 b = M 45 b := fun b hb => by rw [upM_nej hb, upM_ne (by omega)]; exact h45 b
        have hnew : MIv c (upM (upM M1 57 (sKe S).length (M 45 11)) 45 16 (((sKe S).length : Int) + 1)) P (S.1, S.2.1, sNow S, sUn S, sKe S ++ [sNow S]) := ⟨hGr, ⟨⟨by rw [e4 0 (by omega)]; exact g0, by rw [e4 1 (by omega)]; exact g1, by rw [e4 2 (by omega)]; exact g2, by rw [e4 3 (by omega)]; exact g3, by rw [e4 4 (by omega)]; exact g4⟩, fun x hx => by
          rw [eo 46 (by omega) (by omega) (by omega) (by omega), eo 47 (by omega) (by omega) (by omega) (by omega), eo 49 (by omega) (by omega) (by omega) (by omega)]
          exact ⟨(g5 x hx).1, (g5 x hx).2.1, (g5 x hx).2.2.1, fun d hd => by rw [eo 48 (by omega) (by omega) (by omega) (by omega)]; exact (g5 x hx).2.2.2 d hd⟩⟩, ⟨fun x hx => by
          rw [eo 50 (by omega) (by omega) (by omega) (by omega), eo 51 (by omega) (by omega) (by omega) (by omega)]; exact g6 x hx, by rw [e4 11 (by omega)]; exact g7⟩, StM_x g8 (fun a ha b => eo a (by omega) (by omega) (by omega) (by omega) b) (e4 12 (by omega)), hpush, ⟨fun k hk => by rw [eo 58 (by omega) (by omega) (by omega) (by omega)]; exact g10 k hk, by rw [e4 21 (by omega)]; exact g11⟩, qMk_x g12 (e4 37 (by omega)) (eo 67 (by omega) (by omega) (by omega) (by omega))⟩
        refine G_il1 hC dX10_keep_13 ?_
        refine G_al0 hC dX10_keep_14 ?_
        refine G_getI hC fl_X10_116 (by first | assumption | rfl) (by omega) dX10_keep_15 ?_
        rw [h45, g0]
        refine G_icmp_ge (tgt := 67) hC dX10_keep_18 (by decide) (by omega) (by omega) (fun c18 => ?_) (fun c18 => ?_)
        · refine G_al0 hC dX10_keep_67 ?_
          refine G_getR hC fl_X10_43 (by first | assumption | rfl) (by omega) (by first | assumption | exact hGr _ _ rfl) dX10_keep_68 ?_
          refine G_al0 hC dX10_keep_71 ?_
          refine G_getI hC fl_X10_189 (by first | assumption | rfl) (by omega) dX10_keep_72 ?_
          rw [h45, g9.1]
          refine G_al0 hC dX10_keep_75 ?_
          refine G_getI hC fl_X10_183 (by first | assumption | rfl) (by omega) dX10_keep_76 ?_
          rw [h45]
          refine G_iastoreN (n := (sKe S).length) hC (by first | assumption | rfl) (by omega) (by omega) (by omega) dX10_keep_79 ?_
          refine G_al0 hC dX10_keep_80 ?_
          refine G_dup hC dX10_keep_81 rfl ?_
          refine G_getI hC fl_X10_189 (by first | assumption | rfl) (by omega) dX10_keep_82 ?_
          rw [upM_ne (by omega), h45, g9.1]
          refine G_iconst hC dX10_keep_85 ?_
          refine G_iadd hC dX10_keep_86 ?_
          refine G_putI hC fl_X10_189 (by first | assumption | rfl) (by omega) dX10_keep_87 ?_
          refine G_al0 hC dX10_keep_90 ?_
          refine G_getI hC fl_X10_189 (by first | assumption | rfl) (by omega) dX10_keep_91 ?_
          rw [upM_self]
          exact G_iret hC hQ dX10_keep_94 ⟨_, rfl, rfl, by rw [hks], by rw [hks]; exact hnew, fun a ha b => by
  unfold mdX at ha
  exact eo a (by omega) (by omega) (by omega) (by omega) b⟩
        · exact absurd c18 (by omega)
      | succ c2 ih =>
        intro g gv M1 hg e1 hL
        subst e1
        have h45 := hL.2.2 45 (by omega) (by omega)
        have x50 := hL.2.2 50 (by omega) (by omega) g
        have x51 := hL.2.2 51 (by omega) (by omega) g
        refine G_il1 hC dX10_keep_13 ?_
        refine G_al0 hC dX10_keep_14 ?_
        refine G_getI hC fl_X10_116 (by first | assumption | rfl) (by omega) dX10_keep_15 ?_
        rw [h45, g0]
        refine G_icmp_ge (tgt := 67) hC dX10_keep_18 (by decide) (by omega) (by omega) (fun c18 => ?_) (fun c18 => ?_)
        · exact absurd c18 (by omega)
        · refine G_al0 hC dX10_keep_21 ?_
          refine G_getR hC fl_X10_37 (by first | assumption | rfl) (by omega) (by first | assumption | exact hGr _ _ rfl) dX10_keep_22 ?_
          refine G_bipush hC dX10_keep_25 (by decide) ?_
          refine G_al0 hC dX10_keep_27 ?_
          refine G_getI hC fl_X10_189 (by first | assumption | rfl) (by omega) dX10_keep_28 ?_
          rw [h45, g9.1]
          refine G_imul hC dX10_keep_31 ?_
          refine G_il1 hC dX10_keep_32 ?_
          refine G_iadd hC dX10_keep_33 ?_
          refine G_al0 hC dX10_keep_34 ?_
          refine G_getR hC fl_X10_22 (by first | assumption | rfl) (by omega) (by first | assumption | exact hGr _ _ rfl) dX10_keep_35 ?_
          refine G_il1 hC dX10_keep_38 ?_
          refine G_ialoadN (n := g) hC (by first | assumption | rfl) (by omega) (by omega) (by omega) dX10_keep_39 ?_
          rw [x50]
          refine G_iastoreN (n := 6 * (sKe S).length + g) hC (by first | assumption | rfl) (by omega) (by omega) (by omega) dX10_keep_40 ?_
          refine G_al0 hC dX10_keep_41 ?_
          refine G_getR hC fl_X10_40 (by first | assumption | rfl) (by omega) (by first | assumption | exact hGr _ _ rfl) dX10_keep_42 ?_
          refine G_bipush hC dX10_keep_45 (by decide) ?_
          refine G_al0 hC dX10_keep_47 ?_
          refine G_getI hC fl_X10_189 (by first | assumption | rfl) (by omega) dX10_keep_48 ?_
          rw [upM_ne (by omega), h45, g9.1]
          refine G_imul hC dX10_keep_51 ?_
          refine G_il1 hC dX10_keep_52 ?_
          refine G_iadd hC dX10_keep_53 ?_
          refine G_al0 hC dX10_keep_54 ?_
          refine G_getR hC fl_X10_25 (by first | assumption | rfl) (by omega) (by first | assumption | exact hGr _ _ rfl) dX10_keep_55 ?_
          refine G_il1 hC dX10_keep_58 ?_
          refine G_ialoadN (n := g) hC (by first | assumption | rfl) (by omega) (by omega) (by omega) dX10_keep_59 ?_
          rw [upM_ne (by omega), x51]
          refine G_iastoreN (n := 6 * (sKe S).length + g) hC (by first | assumption | rfl) (by omega) (by omega) (by omega) dX10_keep_60 ?_
          refine G_inc1 hC dX10_keep_61 rfl ?_
          refine G_goto (tgt := 13) hC dX10_keep_64 (by decide) ?_
          exact ih (g + 1) _ _ (by omega) (by omega) (coI_s hL)
    refine G_al0 hC dX10_keep_0 ?_
    refine G_getI hC fl_X10_189 (by first | assumption | rfl) (by omega) dX10_keep_1 ?_
    rw [g9.1]
    refine G_iconst hC dX10_keep_4 ?_
    refine G_icmp_ne (tgt := 11) hC dX10_keep_5 (by decide) (by omega) (by omega) (fun c5 => ?_) (fun c5 => ?_)
    · refine G_iconst hC dX10_keep_11 ?_
      refine G_is1 hC dX10_keep_12 rfl ?_
      exact hlp (tn (sT S)) 0 _ M (by omega) rfl coI_0
    · exact absurd c5 (by omega)
  · refine G_al0 hC dX10_keep_0 ?_
    refine G_getI hC fl_X10_189 (by first | assumption | rfl) (by omega) dX10_keep_1 ?_
    rw [g9.1]
    refine G_iconst hC dX10_keep_4 ?_
    refine G_icmp_ne (tgt := 11) hC dX10_keep_5 (by decide) (by omega) (by omega) (fun c5 => ?_) (fun c5 => ?_)
    · exact absurd (by omega) c5
    · refine G_bipush hC dX10_keep_8 (by decide) ?_
      exact G_iret hC hQ dX10_keep_10 ⟨_, rfl, rfl, by unfold keepS; rw [if_neg hk], by unfold keepS; rw [if_neg hk]; exact hI, eqx.refl⟩
set_option maxHeartbeats 4000000 in
set_option maxRecDepth 100000 in
theorem c_X10_undo {l : Launch} {c : Nat} {S : AS} {M : Mem} {P : PMem} (hS : SOK c S) (hI : MIv c M P S)  : CtI l yX10_undo cX10_undo 2 (some .int) 0 0 77 [vR 45] M P (mR c M P (undoS S).2 (undoS S).1) := by
  refine Ct_of (own := RX10) (L := [vR 45, vX 1]) (by decide) rfl rfl (Nat.le_of_ble_eq_true rfl) (fun X Y hl hC hQ => ?_)
  obtain ⟨hGr, ⟨⟨g0, g1, g2, g3, g4⟩, g5⟩, ⟨g6, g7⟩, g8, g9, ⟨g10, g11⟩, g12⟩ := id hI
  obtain ⟨s1, ⟨s2, s3, s4, s5, s6, s7, s8⟩, ⟨s9, s10, s11, s12⟩, s13, s14, s15, s16, s17, s18⟩ := id hS
  obtain ⟨m1, m2, m3, m4⟩ := id s14
  by_cases hk : sUn S = []
  · refine G_al0 hC dX10_undo_0 ?_
    refine G_getI hC fl_X10_186 (by first | assumption | rfl) (by omega) dX10_undo_1 ?_
    rw [g8.1, hk, show (([] : List MO).length : Int) = 0 from rfl]
    refine G_if_ne (tgt := 10) hC dX10_undo_4 (by decide) (by omega) (fun c4 => ?_) (fun c4 => ?_)
    · exact absurd rfl c4
    · refine G_bipush hC dX10_undo_7 (by decide) ?_
      exact G_iret hC hQ dX10_undo_9 ⟨_, rfl, rfl, by unfold undoS; rw [hk]; rfl, by unfold undoS; rw [hk]; exact hI, eqx.refl⟩
  · obtain ⟨ys, x, hy⟩ := last_ex hk
    have hlen : (sUn S).length = ys.length + 1 := by rw [hy]; simp
    have hul : M 45 12 = (ys.length : Int) + 1 := by rw [g8.1, hlen]; omega
    have hud : undoS S = ((ys.length : Int), (S.1, S.2.1, x, ys, sKe S)) := by
      unfold undoS
      rw [hy]
      simp
    obtain ⟨hx1, hx2⟩ := g8.2 ys.length x (by rw [hy]; simp)
    have hlp : ∀ (c2 g : Nat) (gv : Int) (M1 : Mem), g + c2 = tn (sT S) → gv = (g : Int) → unI (upM M 45 12 (ys.length : Int)) M1 52 ys.length g → G X Y 22 [vR 45, vI gv] [] M1 P := by
      intro c2
      induction c2 with
      | zero =>
        intro g gv M1 hg e1 hL
        subst e1
        have hgn : g = tn (sT S) := by omega
        subst hgn
        have hsl : M1 45 12 = (ys.length : Int) := by rw [hL.2 45 (by omega) (by omega), upM_self]
        have hn0 : M1 45 0 = (tn (sT S) : Int) := by rw [hL.2 45 (by omega) (by omega), upM_nej (by omega)]; exact g0
        have xm : M1 54 ys.length = M 54 ys.length := by rw [hL.2 54 (by omega) (by omega), upM_ne (by omega)]
        have eo : ∀ a, a ≠ 50 → a ≠ 51 → a ≠ 45 → ∀ b, upM M1 45 11 (M 54 ys.length) a b = M a b := fun a h1 h2 h4 b => by rw [upM_ne h4, hL.2 a h1 h2, upM_ne h4]
        have e4 : ∀ b, b ≠ 11 → b ≠ 12 →  upM M1 45 11 (M 54 ys.length) 45 b = M 45 b := fun b h1 h2 => by rw [upM_nej h1, hL.2 45 (by omega) (by omega), upM_nej h2]
        have hnew : MIv c (upM M1 45 11 (M 54 ys.length)) P (S.1, S.2.1, x, ys, sKe S) := ⟨hGr, ⟨⟨by rw [e4 0 (by omega) (by omega)]; exact g0, by rw [e4 1 (by omega) (by omega)]; exact g1, by rw [e4 2 (by omega) (by omega)]; exact g2, by rw [e4 3 (by omega) (by omega)]; exact g3, by rw [e4 4 (by omega) (by omega)]; exact g4⟩, fun y hyy => by
          rw [eo 46 (by omega) (by omega) (by omega), eo 47 (by omega) (by omega) (by omega), eo 49 (by omega) (by omega) (by omega)]
          exact ⟨(g5 y hyy).1, (g5 y hyy).2.1, (g5 y hyy).2.2.1, fun d hd => by rw [eo 48 (by omega) (by omega) (by omega)]; exact (g5 y hyy).2.2.2 d hd⟩⟩, ⟨fun y hyy => by
          have hyy' : y < tn (sT S) := hyy
          have := hL.1 y hyy'
          have hz := hx1 y hyy'
          show upM M1 45 11 (M 54 ys.length) 50 y = nv (x.1 y) ∧ upM M1 45 11 (M 54 ys.length) 51 y = (x.2.1 y : Int)
          rw [upM_ne (by omega), upM_ne (by omega), this.1, this.2, upM_ne (by omega), upM_ne (by omega)]
          exact hz, by
          show upM M1 45 11 (M 54 ys.length) 45 11 = (x.2.2 : Int)
          rw [upM_self]; exact hx2⟩, StM_short (ms := ys) (x := x) (by rw [← hy]; exact g8) (fun a ha b => eo a (by omega) (by omega) (by omega) b) (by rw [upM_nej (by omega), hL.2 45 (by omega) (by omega), upM_self]), StM_x g9 (fun a ha b => eo a (by omega) (by omega) (by omega) b) (e4 16 (by omega) (by omega)), ⟨fun k hk => by rw [eo 58 (by omega) (by omega) (by omega)]; exact g10 k hk, by rw [e4 21 (by omega) (by omega)]; exact g11⟩, qMk_x g12 (e4 37 (by omega) (by omega)) (eo 67 (by omega) (by omega) (by omega))⟩
        refine G_il1 hC dX10_undo_22 ?_
        refine G_al0 hC dX10_undo_23 ?_
        refine G_getI hC fl_X10_116 (by first | assumption | rfl) (by omega) dX10_undo_24 ?_
        rw [hn0]
        refine G_icmp_ge (tgt := 76) hC dX10_undo_27 (by decide) (by omega) (by omega) (fun c27 => ?_) (fun c27 => ?_)
        · refine G_al0 hC dX10_undo_76 ?_
          refine G_al0 hC dX10_undo_77 ?_
          refine G_getR hC fl_X10_34 (by first | assumption | rfl) (by omega) (by first | assumption | exact hGr _ _ rfl) dX10_undo_78 ?_
          refine G_al0 hC dX10_undo_81 ?_
          refine G_getI hC fl_X10_186 (by first | assumption | rfl) (by omega) dX10_undo_82 ?_
          rw [hsl]
          refine G_ialoadN (n := ys.length) hC (by first | assumption | rfl) (by omega) (by omega) (by omega) dX10_undo_85 ?_
          rw [xm]
          refine G_putI hC fl_X10_183 (by first | assumption | rfl) (by omega) dX10_undo_86 ?_
          refine G_al0 hC dX10_undo_89 ?_
          refine G_getI hC fl_X10_186 (by first | assumption | rfl) (by omega) dX10_undo_90 ?_
          rw [upM_nej (by omega), hsl]
          exact G_iret hC hQ dX10_undo_93 ⟨_, rfl, rfl, by rw [hud], by rw [hud]; exact hnew, fun a ha b => by
  unfold mdX at ha
  exact eo a (by omega) (by omega) (by omega) b⟩
        · exact absurd c27 (by omega)
      | succ c2 ih =>
        intro g gv M1 hg e1 hL
        subst e1
        have hsl : M1 45 12 = (ys.length : Int) := by rw [hL.2 45 (by omega) (by omega), upM_self]
        have hn0 : M1 45 0 = (tn (sT S) : Int) := by rw [hL.2 45 (by omega) (by omega), upM_nej (by omega)]; exact g0
        have xa := hL.2 52 (by omega) (by omega) (6 * ys.length + g)
        have xb := hL.2 53 (by omega) (by omega) (6 * ys.length + g)
        refine G_il1 hC dX10_undo_22 ?_
        refine G_al0 hC dX10_undo_23 ?_
        refine G_getI hC fl_X10_116 (by first | assumption | rfl) (by omega) dX10_undo_24 ?_
        rw [hn0]
        refine G_icmp_ge (tgt := 76) hC dX10_undo_27 (by decide) (by omega) (by omega) (fun c27 => ?_) (fun c27 => ?_)
        · exact absurd c27 (by omega)
        · refine G_al0 hC dX10_undo_30 ?_
          refine G_getR hC fl_X10_22 (by first | assumption | rfl) (by omega) (by first | assumption | exact hGr _ _ rfl) dX10_undo_31 ?_
          refine G_il1 hC dX10_undo_34 ?_
          refine G_al0 hC dX10_undo_35 ?_
          refine G_getR hC fl_X10_28 (by first | assumption | rfl) (by omega) (by first | assumption | exact hGr _ _ rfl) dX10_undo_36 ?_
          refine G_bipush hC dX10_undo_39 (by decide) ?_
          refine G_al0 hC dX10_undo_41 ?_
          refine G_getI hC fl_X10_186 (by first | assumption | rfl) (by omega) dX10_undo_42 ?_
          rw [hsl]
          refine G_imul hC dX10_undo_45 ?_
          refine G_il1 hC dX10_undo_46 ?_
          refine G_iadd hC dX10_undo_47 ?_
          refine G_ialoadN (n := 6 * ys.length + g) hC (by first | assumption | rfl) (by omega) (by omega) (by omega) dX10_undo_48 ?_
          rw [xa]
          refine G_iastoreN (n := g) hC (by first | assumption | rfl) (by omega) (by omega) (by omega) dX10_undo_49 ?_
          refine G_al0 hC dX10_undo_50 ?_
          refine G_getR hC fl_X10_25 (by first | assumption | rfl) (by omega) (by first | assumption | exact hGr _ _ rfl) dX10_undo_51 ?_
          refine G_il1 hC dX10_undo_54 ?_
          refine G_al0 hC dX10_undo_55 ?_
          refine G_getR hC fl_X10_31 (by first | assumption | rfl) (by omega) (by first | assumption | exact hGr _ _ rfl) dX10_undo_56 ?_
          refine G_bipush hC dX10_undo_59 (by decide) ?_
          refine G_al0 hC dX10_undo_61 ?_
          refine G_getI hC fl_X10_186 (by first | assumption | rfl) (by omega) dX10_undo_62 ?_
          rw [upM_ne (by omega), hsl]
          refine G_imul hC dX10_undo_65 ?_
          refine G_il1 hC dX10_undo_66 ?_
          refine G_iadd hC dX10_undo_67 ?_
          refine G_ialoadN (n := 6 * ys.length + g) hC (by first | assumption | rfl) (by omega) (by omega) (by omega) dX10_undo_68 ?_
          rw [upM_ne (by omega), xb]
          refine G_iastoreN (n := g) hC (by first | assumption | rfl) (by omega) (by omega) (by omega) dX10_undo_69 ?_
          refine G_inc1 hC dX10_undo_70 rfl ?_
          refine G_goto (tgt := 22) hC dX10_undo_73 (by decide) ?_
          exact ih (g + 1) _ _ (by omega) (by omega) (unI_s hL)
    refine G_al0 hC dX10_undo_0 ?_
    refine G_getI hC fl_X10_186 (by first | assumption | rfl) (by omega) dX10_undo_1 ?_
    rw [hul]
    refine G_if_ne (tgt := 10) hC dX10_undo_4 (by decide) (by omega) (fun c4 => ?_) (fun c4 => ?_)
    · refine G_al0 hC dX10_undo_10 ?_
      refine G_dup hC dX10_undo_11 rfl ?_
      refine G_getI hC fl_X10_186 (by first | assumption | rfl) (by omega) dX10_undo_12 ?_
      rw [hul]
      refine G_iconst hC dX10_undo_15 ?_
      refine G_isub hC dX10_undo_16 ?_
      refine G_putI hC fl_X10_186 (by first | assumption | rfl) (by omega) dX10_undo_17 ?_
      refine G_iconst hC dX10_undo_20 ?_
      refine G_is1 hC dX10_undo_21 rfl ?_
      rw [show (ys.length : Int) + 1 - 1 = (ys.length : Int) by omega]
      exact hlp (tn (sT S)) 0 _ _ (by omega) rfl ⟨fun b hb => by omega, fun _ _ _ _ => rfl⟩
    · exact absurd c4 (by omega)
set_option maxHeartbeats 4000000 in
set_option maxRecDepth 100000 in
theorem c_X10_back {l : Launch} {c : Nat} {S : AS} {M : Mem} {P : PMem} (hS : SOK c S) (hI : MIv c M P S)  : CtI l yX10_back cX10_back 2 (some .int) 0 0 77 [vR 45] M P (mR c M P (backS S).2 (backS S).1) := by
  refine Ct_of (own := RX10) (L := [vR 45, vX 1]) (by decide) rfl rfl (Nat.le_of_ble_eq_true rfl) (fun X Y hl hC hQ => ?_)
  obtain ⟨hGr, ⟨⟨g0, g1, g2, g3, g4⟩, g5⟩, ⟨g6, g7⟩, g8, g9, ⟨g10, g11⟩, g12⟩ := id hI
  obtain ⟨s1, ⟨s2, s3, s4, s5, s6, s7, s8⟩, ⟨s9, s10, s11, s12⟩, s13, s14, s15, s16, s17, s18⟩ := id hS
  obtain ⟨m1, m2, m3, m4⟩ := id s14
  by_cases hk : sKe S = []
  · refine G_al0 hC dX10_back_0 ?_
    refine G_getI hC fl_X10_189 (by first | assumption | rfl) (by omega) dX10_back_1 ?_
    rw [g9.1, hk, show (([] : List MO).length : Int) = 0 from rfl]
    refine G_if_ne (tgt := 10) hC dX10_back_4 (by decide) (by omega) (fun c4 => ?_) (fun c4 => ?_)
    · exact absurd rfl c4
    · refine G_bipush hC dX10_back_7 (by decide) ?_
      exact G_iret hC hQ dX10_back_9 ⟨_, rfl, rfl, by unfold backS; rw [hk]; rfl, by unfold backS; rw [hk]; exact hI, eqx.refl⟩
  · obtain ⟨ys, x, hy⟩ := last_ex hk
    have hlen : (sKe S).length = ys.length + 1 := by rw [hy]; simp
    have hul : M 45 16 = (ys.length : Int) + 1 := by rw [g9.1, hlen]; omega
    have hud : backS S = ((ys.length : Int), (S.1, S.2.1, x, [], ys)) := by
      unfold backS
      rw [hy]
      simp
    obtain ⟨hx1, hx2⟩ := g9.2 ys.length x (by rw [hy]; simp)
    have hlp : ∀ (c2 g : Nat) (gv : Int) (M1 : Mem), g + c2 = tn (sT S) → gv = (g : Int) → unI (upM M 45 16 (ys.length : Int)) M1 55 ys.length g → G X Y 22 [vR 45, vI gv] [] M1 P := by
      intro c2
      induction c2 with
      | zero =>
        intro g gv M1 hg e1 hL
        subst e1
        have hgn : g = tn (sT S) := by omega
        subst hgn
        have hsl : M1 45 16 = (ys.length : Int) := by rw [hL.2 45 (by omega) (by omega), upM_self]
        have hn0 : M1 45 0 = (tn (sT S) : Int) := by rw [hL.2 45 (by omega) (by omega), upM_nej (by omega)]; exact g0
        have xm : M1 57 ys.length = M 57 ys.length := by rw [hL.2 57 (by omega) (by omega), upM_ne (by omega)]
        have eo : ∀ a, a ≠ 50 → a ≠ 51 → a ≠ 45 → ∀ b, upM (upM M1 45 11 (M 57 ys.length)) 45 12 0 a b = M a b := fun a h1 h2 h4 b => by rw [upM_ne h4, upM_ne h4, hL.2 a h1 h2, upM_ne h4]
        have e4 : ∀ b, b ≠ 11 → b ≠ 16 → b ≠ 12 →  upM (upM M1 45 11 (M 57 ys.length)) 45 12 0 45 b = M 45 b := fun b h1 h2 h3 => by rw [upM_nej h3, upM_nej h1, hL.2 45 (by omega) (by omega), upM_nej h2]
        have hnew : MIv c (upM (upM M1 45 11 (M 57 ys.length)) 45 12 0) P (S.1, S.2.1, x, [], ys) := ⟨hGr, ⟨⟨by rw [e4 0 (by omega) (by omega) (by omega)]; exact g0, by rw [e4 1 (by omega) (by omega) (by omega)]; exact g1, by rw [e4 2 (by omega) (by omega) (by omega)]; exact g2, by rw [e4 3 (by omega) (by omega) (by omega)]; exact g3, by rw [e4 4 (by omega) (by omega) (by omega)]; exact g4⟩, fun y hyy => by
          rw [eo 46 (by omega) (by omega) (by omega), eo 47 (by omega) (by omega) (by omega), eo 49 (by omega) (by omega) (by omega)]
          exact ⟨(g5 y hyy).1, (g5 y hyy).2.1, (g5 y hyy).2.2.1, fun d hd => by rw [eo 48 (by omega) (by omega) (by omega)]; exact (g5 y hyy).2.2.2 d hd⟩⟩, ⟨fun y hyy => by
          have hyy' : y < tn (sT S) := hyy
          have := hL.1 y hyy'
          have hz := hx1 y hyy'
          show upM (upM M1 45 11 (M 57 ys.length)) 45 12 0 50 y = nv (x.1 y) ∧ upM (upM M1 45 11 (M 57 ys.length)) 45 12 0 51 y = (x.2.1 y : Int)
          rw [upM_ne (by omega), upM_ne (by omega), upM_ne (by omega), upM_ne (by omega), this.1, this.2, upM_ne (by omega), upM_ne (by omega)]
          exact hz, by
          show upM (upM M1 45 11 (M 57 ys.length)) 45 12 0 45 11 = (x.2.2 : Int)
          rw [upM_nej (by omega), upM_self]; exact hx2⟩, ⟨by rw [upM_self]; rfl, fun k y hk => by
          have hk1 : ([] : List MO)[k]? = some y := hk
          simp at hk1⟩, StM_short (ms := ys) (x := x) (by rw [← hy]; exact g9) (fun a ha b => eo a (by omega) (by omega) (by omega) b) (by rw [upM_nej (by omega), upM_nej (by omega), hL.2 45 (by omega) (by omega), upM_self]), ⟨fun k hk => by rw [eo 58 (by omega) (by omega) (by omega)]; exact g10 k hk, by rw [e4 21 (by omega) (by omega) (by omega)]; exact g11⟩, qMk_x g12 (e4 37 (by omega) (by omega) (by omega)) (eo 67 (by omega) (by omega) (by omega))⟩
        refine G_il1 hC dX10_back_22 ?_
        refine G_al0 hC dX10_back_23 ?_
        refine G_getI hC fl_X10_116 (by first | assumption | rfl) (by omega) dX10_back_24 ?_
        rw [hn0]
        refine G_icmp_ge (tgt := 76) hC dX10_back_27 (by decide) (by omega) (by omega) (fun c27 => ?_) (fun c27 => ?_)
        · refine G_al0 hC dX10_back_76 ?_
          refine G_al0 hC dX10_back_77 ?_
          refine G_getR hC fl_X10_43 (by first | assumption | rfl) (by omega) (by first | assumption | exact hGr _ _ rfl) dX10_back_78 ?_
          refine G_al0 hC dX10_back_81 ?_
          refine G_getI hC fl_X10_189 (by first | assumption | rfl) (by omega) dX10_back_82 ?_
          rw [hsl]
          refine G_ialoadN (n := ys.length) hC (by first | assumption | rfl) (by omega) (by omega) (by omega) dX10_back_85 ?_
          rw [xm]
          refine G_putI hC fl_X10_183 (by first | assumption | rfl) (by omega) dX10_back_86 ?_
          refine G_al0 hC dX10_back_89 ?_
          refine G_iconst hC dX10_back_90 ?_
          refine G_putI hC fl_X10_186 (by first | assumption | rfl) (by omega) dX10_back_91 ?_
          refine G_al0 hC dX10_back_94 ?_
          refine G_getI hC fl_X10_189 (by first | assumption | rfl) (by omega) dX10_back_95 ?_
          rw [upM_nej (by omega), upM_nej (by omega), hsl]
          exact G_iret hC hQ dX10_back_98 ⟨_, rfl, rfl, by rw [hud], by rw [hud]; exact hnew, fun a ha b => by
  unfold mdX at ha
  exact eo a (by omega) (by omega) (by omega) b⟩
        · exact absurd c27 (by omega)
      | succ c2 ih =>
        intro g gv M1 hg e1 hL
        subst e1
        have hsl : M1 45 16 = (ys.length : Int) := by rw [hL.2 45 (by omega) (by omega), upM_self]
        have hn0 : M1 45 0 = (tn (sT S) : Int) := by rw [hL.2 45 (by omega) (by omega), upM_nej (by omega)]; exact g0
        have xa := hL.2 55 (by omega) (by omega) (6 * ys.length + g)
        have xb := hL.2 56 (by omega) (by omega) (6 * ys.length + g)
        refine G_il1 hC dX10_back_22 ?_
        refine G_al0 hC dX10_back_23 ?_
        refine G_getI hC fl_X10_116 (by first | assumption | rfl) (by omega) dX10_back_24 ?_
        rw [hn0]
        refine G_icmp_ge (tgt := 76) hC dX10_back_27 (by decide) (by omega) (by omega) (fun c27 => ?_) (fun c27 => ?_)
        · exact absurd c27 (by omega)
        · refine G_al0 hC dX10_back_30 ?_
          refine G_getR hC fl_X10_22 (by first | assumption | rfl) (by omega) (by first | assumption | exact hGr _ _ rfl) dX10_back_31 ?_
          refine G_il1 hC dX10_back_34 ?_
          refine G_al0 hC dX10_back_35 ?_
          refine G_getR hC fl_X10_37 (by first | assumption | rfl) (by omega) (by first | assumption | exact hGr _ _ rfl) dX10_back_36 ?_
          refine G_bipush hC dX10_back_39 (by decide) ?_
          refine G_al0 hC dX10_back_41 ?_
          refine G_getI hC fl_X10_189 (by first | assumption | rfl) (by omega) dX10_back_42 ?_
          rw [hsl]
          refine G_imul hC dX10_back_45 ?_
          refine G_il1 hC dX10_back_46 ?_
          refine G_iadd hC dX10_back_47 ?_
          refine G_ialoadN (n := 6 * ys.length + g) hC (by first | assumption | rfl) (by omega) (by omega) (by omega) dX10_back_48 ?_
          rw [xa]
          refine G_iastoreN (n := g) hC (by first | assumption | rfl) (by omega) (by omega) (by omega) dX10_back_49 ?_
          refine G_al0 hC dX10_back_50 ?_
          refine G_getR hC fl_X10_25 (by first | assumption | rfl) (by omega) (by first | assumption | exact hGr _ _ rfl) dX10_back_51 ?_
          refine G_il1 hC dX10_back_54 ?_
          refine G_al0 hC dX10_back_55 ?_
          refine G_getR hC fl_X10_40 (by first | assumption | rfl) (by omega) (by first | assumption | exact hGr _ _ rfl) dX10_back_56 ?_
          refine G_bipush hC dX10_back_59 (by decide) ?_
          refine G_al0 hC dX10_back_61 ?_
          refine G_getI hC fl_X10_189 (by first | assumption | rfl) (by omega) dX10_back_62 ?_
          rw [upM_ne (by omega), hsl]
          refine G_imul hC dX10_back_65 ?_
          refine G_il1 hC dX10_back_66 ?_
          refine G_iadd hC dX10_back_67 ?_
          refine G_ialoadN (n := 6 * ys.length + g) hC (by first | assumption | rfl) (by omega) (by omega) (by omega) dX10_back_68 ?_
          rw [upM_ne (by omega), xb]
          refine G_iastoreN (n := g) hC (by first | assumption | rfl) (by omega) (by omega) (by omega) dX10_back_69 ?_
          refine G_inc1 hC dX10_back_70 rfl ?_
          refine G_goto (tgt := 22) hC dX10_back_73 (by decide) ?_
          exact ih (g + 1) _ _ (by omega) (by omega) (unI_s hL)
    refine G_al0 hC dX10_back_0 ?_
    refine G_getI hC fl_X10_189 (by first | assumption | rfl) (by omega) dX10_back_1 ?_
    rw [hul]
    refine G_if_ne (tgt := 10) hC dX10_back_4 (by decide) (by omega) (fun c4 => ?_) (fun c4 => ?_)
    · refine G_al0 hC dX10_back_10 ?_
      refine G_dup hC dX10_back_11 rfl ?_
      refine G_getI hC fl_X10_189 (by first | assumption | rfl) (by omega) dX10_back_12 ?_
      rw [hul]
      refine G_iconst hC dX10_back_15 ?_
      refine G_isub hC dX10_back_16 ?_
      refine G_putI hC fl_X10_189 (by first | assumption | rfl) (by omega) dX10_back_17 ?_
      refine G_iconst hC dX10_back_20 ?_
      refine G_is1 hC dX10_back_21 rfl ?_
      rw [show (ys.length : Int) + 1 - 1 = (ys.length : Int) by omega]
      exact hlp (tn (sT S)) 0 _ _ (by omega) rfl ⟨fun b hb => by omega, fun _ _ _ _ => rfl⟩
    · exact absurd c4 (by omega)
