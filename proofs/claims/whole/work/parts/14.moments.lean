/-! what dishes are worth, wants -/
def wAt (T : TB) (c m : Int) (g d : Nat) : Int := (wo T g d : Int) * max 0 (10 - c * m) / 10
def wTog (T : TB) (c m : Int) (f : Nat → Nat) : Nat → Int
  | 0 => 0
  | k + 1 => wTog T c m f k + wAt T c m k (f k)
def TabW (M : Mem) (t : Nat) (W : Nat → Nat) : Prop := ∀ g, g < 6 → M (t + 2) g = (W g : Int) ∧ W g < 64
theorem mul_rng {a b A B : Int} (ha : 0 ≤ a ∧ a ≤ A) (hb : 0 ≤ b ∧ b ≤ B) : 0 ≤ a * b ∧ a * b ≤ A * B := ⟨Int.mul_nonneg ha.1 hb.1, Int.mul_le_mul ha.2 hb.2 hb.1 (by omega)⟩
set_option maxHeartbeats 4000000 in
set_option maxRecDepth 100000 in
theorem c_X7_worthAt {l : Launch} {t g d : Nat} {T : TB} {m : Int} {M : Mem} {P : PMem} (hGr : Gr P) (ht : isT t) (hR : TabR M t T) (hg : g < 6) (hd : d < 8) (hcm : 0 ≤ M t 4 * m ∧ M t 4 * m ≤ 1000000) : CtI l yX7_worthAt cX7_worthAt 4 (some .int) 1 22 45 [vR t, vI g, vI d, vI m] M P (pI (wAt T (M t 4) m g d) M P) := by
  refine Ct_of (own := RX7) (L := [vR t, vI g, vI d, vI m]) (by decide) rfl rfl (Nat.le_of_ble_eq_true rfl) (fun X Y hl hC hQ => ?_)
  obtain ⟨hs0, hs1, hs2, hs3, hb3, hp6, hp7, hp8⟩ := isT_all hGr ht
  obtain ⟨hR0, hR2, hR6, hRr, hRr1, hRk, hRw⟩ := id hR
  have hw := wo_le hR (g := g) (d := d) hg
  have hpr := mul_rng (a := (wo T g d : Int)) (b := max 0 (10 - M t 4 * m)) (A := 9) (B := 10) (by omega) (by omega)
  refine G_al0 hC dX7_worthAt_0 ?_
  refine G_il1 hC dX7_worthAt_1 ?_
  refine G_il2 hC dX7_worthAt_2 ?_
  refine G_callVI hC (c_X7_worthOf hGr ht hR hg hd) mv_X7_56 (by first | assumption | rfl) (by omega) (by decide) rfl (by decide) dX7_worthAt_3 rfl (Nat.le_of_ble_eq_true rfl) rfl (fun z3 M3 P3 h3 => ?_)
  obtain ⟨rfl, rfl, rfl⟩ := h3
  refine G_iconst hC dX7_worthAt_6 ?_
  refine G_bipush hC dX7_worthAt_7 (by decide) ?_
  refine G_al0 hC dX7_worthAt_9 ?_
  refine G_getI hC fl_X7_34 (by first | assumption | rfl) (by omega) dX7_worthAt_10 ?_
  refine G_il3 hC dX7_worthAt_13 ?_
  refine G_imul hC dX7_worthAt_14 ?_
  refine G_isub hC dX7_worthAt_15 ?_
  refine G_max hC mm_X7_72 (by omega) (by omega) rfl (by decide) (Nat.le_of_ble_eq_true rfl) dX7_worthAt_16 ?_
  refine G_imul hC dX7_worthAt_19 ?_
  refine G_bipush hC dX7_worthAt_20 (by decide) ?_
  refine G_idiv hC dX7_worthAt_22 (by omega) (by omega) ?_
  exact G_iret hC hQ dX7_worthAt_23 ⟨_, rfl, rfl, rfl, rfl⟩
set_option maxHeartbeats 4000000 in
set_option maxRecDepth 100000 in
theorem c_X7_worthTogether {l : Launch} {t : Nat} {T : TB} {m : Int} {f : Nat → Nat} {M : Mem} {P : PMem} (hGr : Gr P) (ht : isT t) (hR : TabR M t T) (hf : lo8 f) (hcm : 0 ≤ M t 4 * m ∧ M t 4 * m ≤ 1000000) : CtI l yX7_worthTogether cX7_worthTogether 5 (some .int) 2 45 45 [vR t, vI (enc f), vI m] M P (pI (wTog T (M t 4) m f (tn T)) M P) := by
  refine Ct_of (own := RX7) (L := [vR t, vI (enc f), vI m, vX 1, vX 1]) (by decide) rfl rfl (Nat.le_of_ble_eq_true rfl) (fun X Y hl hC hQ => ?_)
  obtain ⟨hs0, hs1, hs2, hs3, hb3, hp6, hp7, hp8⟩ := isT_all hGr ht
  obtain ⟨hR0, hR2, hR6, hRr, hRr1, hRk, hRw⟩ := id hR
  have hlp : ∀ n g : Nat, g + n = tn T → ∀ (gv sv : Int), gv = (g : Int) → sv = wTog T (M t 4) m f g → G X Y 5 [vR t, vI (enc f), vI m, vI sv, vI gv] [] M P := by
    intro n
    induction n with
    | zero =>
      intro g hg gv sv e1 e2
      subst e1; subst e2
      refine G_il4 hC dX7_worthTogether_5 ?_
      refine G_al0 hC dX7_worthTogether_7 ?_
      refine G_getI hC fl_X7_21 (by first | assumption | rfl) (by omega) dX7_worthTogether_8 ?_
      refine G_icmp_ge (tgt := 36) hC dX7_worthTogether_11 (by decide) (by omega) (by omega) (fun c11 => ?_) (fun c11 => ?_)
      · refine G_il3 hC dX7_worthTogether_36 ?_
        exact G_iret hC hQ dX7_worthTogether_37 ⟨_, rfl, by rw [show g = tn T by omega], rfl, rfl⟩
      · exact absurd c11 (by omega)
    | succ n ih =>
      intro g hg gv sv e1 e2
      subst e1; subst e2
      refine G_il4 hC dX7_worthTogether_5 ?_
      refine G_al0 hC dX7_worthTogether_7 ?_
      refine G_getI hC fl_X7_21 (by first | assumption | rfl) (by omega) dX7_worthTogether_8 ?_
      refine G_icmp_ge (tgt := 36) hC dX7_worthTogether_11 (by decide) (by omega) (by omega) (fun c11 => ?_) (fun c11 => ?_)
      · exact absurd c11 (by omega)
      · refine G_il3 hC dX7_worthTogether_14 ?_
        refine G_al0 hC dX7_worthTogether_15 ?_
        refine G_il4 hC dX7_worthTogether_16 ?_
        refine G_il1 hC dX7_worthTogether_18 ?_
        refine G_il4 hC dX7_worthTogether_19 ?_
        refine G_callSI hC (c_X9_before hf (by omega)) ms_X7_77 (by decide) rfl (by decide) dX7_worthTogether_21 rfl (Nat.le_of_ble_eq_true rfl) rfl (fun z21 M21 P21 h21 => ?_)
        obtain ⟨rfl, rfl, rfl⟩ := h21
        refine G_il2 hC dX7_worthTogether_24 ?_
        refine G_callVI hC (c_X7_worthAt hGr ht hR (by omega) (hf g) hcm) mv_X7_80 (by first | assumption | rfl) (by omega) (by decide) rfl (by decide) dX7_worthTogether_25 rfl (Nat.le_of_ble_eq_true rfl) rfl (fun z25 M25 P25 h25 => ?_)
        obtain ⟨rfl, rfl, rfl⟩ := h25
        refine G_iadd hC dX7_worthTogether_28 ?_
        refine G_is3 hC dX7_worthTogether_29 rfl ?_
        refine G_inc4 hC dX7_worthTogether_30 rfl ?_
        refine G_goto (tgt := 5) hC dX7_worthTogether_33 (by decide) ?_
        exact ih (g + 1) (by omega) _ _ (by omega) rfl
  refine G_iconst hC dX7_worthTogether_0 ?_
  refine G_is3 hC dX7_worthTogether_1 rfl ?_
  refine G_iconst hC dX7_worthTogether_2 ?_
  refine G_is4 hC dX7_worthTogether_3 rfl ?_
  exact hlp (tn T) 0 (by omega) _ _ rfl rfl
def atR (T : TB) (W : Nat → Nat) (f : Nat → Nat) : Prop := ∀ g, g < tn T → W g = 0 ∨ (W g).testBit (f g) = true
noncomputable def atI (T : TB) (W f : Nat → Nat) : Int := by classical exact if atR T W f then 1 else 0
theorem atI_1 {T : TB} {W f : Nat → Nat} (h : atR T W f) : atI T W f = 1 := by unfold atI; rw [if_pos h]
theorem atI_0 {T : TB} {W f : Nat → Nat} (h : ¬ atR T W f) : atI T W f = 0 := by unfold atI; rw [if_neg h]
theorem and_pow (w d : Nat) : w &&& 2 ^ d = if w.testBit d = true then 2 ^ d else 0 := by
  apply Nat.eq_of_testBit_eq
  intro i
  rw [Nat.testBit_and, Nat.testBit_two_pow]
  by_cases h : d = i
  · subst h
    cases hb : w.testBit d <;> simp [Nat.testBit_two_pow]
  · cases hb : w.testBit d <;> simp [h, Nat.testBit_two_pow]
theorem m_bit {w d : Nat} (hw : w < 64) (hd : d < 8) : bAnd w (bShl 1 d) = if w.testBit d = true then ((2 ^ d : Nat) : Int) else 0 := by
  have h2 : 2 ^ d < 2 ^ 8 := Nat.pow_lt_pow_right (by omega) hd
  rw [m_one d (by omega), bAnd_n (by omega) (by omega), and_pow]
  cases w.testBit d <;> simp
set_option maxHeartbeats 4000000 in
set_option maxRecDepth 100000 in
theorem c_X7_isAtRest {l : Launch} {t : Nat} {T : TB} {W f : Nat → Nat} {M : Mem} {P : PMem} (hGr : Gr P) (ht : isT t) (hR : TabR M t T) (hW : TabW M t W) (hf : lo8 f) : CtI l yX7_isAtRest cX7_isAtRest 3 (some .boolean) 2 42 45 [vR t, vI (enc f)] M P (pI (atI T W f) M P) := by
  refine Ct_of (own := RX7) (L := [vR t, vI (enc f), vX 1]) (by decide) rfl rfl (Nat.le_of_ble_eq_true rfl) (fun X Y hl hC hQ => ?_)
  obtain ⟨hs0, hs1, hs2, hs3, hb3, hp6, hp7, hp8⟩ := isT_all hGr ht
  obtain ⟨hR0, hR2, hR6, hRr, hRr1, hRk, hRw⟩ := id hR
  have hlp : ∀ n g : Nat, g + n = tn T → ∀ (gv : Int), gv = (g : Int) → (∀ k, k < g → W k = 0 ∨ (W k).testBit (f k) = true) → G X Y 2 [vR t, vI (enc f), vI gv] [] M P := by
    intro n
    induction n with
    | zero =>
      intro g hg gv e1 hk
      subst e1
      refine G_il2 hC dX7_isAtRest_2 ?_
      refine G_al0 hC dX7_isAtRest_3 ?_
      refine G_getI hC fl_X7_21 (by first | assumption | rfl) (by omega) dX7_isAtRest_4 ?_
      refine G_icmp_ge (tgt := 42) hC dX7_isAtRest_7 (by decide) (by omega) (by omega) (fun c7 => ?_) (fun c7 => ?_)
      · refine G_iconst hC dX7_isAtRest_42 ?_
        exact G_zret hC hQ dX7_isAtRest_43 (by omega) ⟨_, rfl, atI_1 (fun k h => hk k (by omega)), rfl, rfl⟩
      · exact absurd c7 (by omega)
    | succ n ih =>
      intro g hg gv e1 hk
      subst e1
      have hwg := hW g (by omega)
      have hfg := hf g
      have hbit := m_bit hwg.2 hfg
      have hpw := Nat.two_pow_pos (f g)
      have hpl : 2 ^ f g < 2 ^ 8 := Nat.pow_lt_pow_right (by omega) hfg
      refine G_il2 hC dX7_isAtRest_2 ?_
      refine G_al0 hC dX7_isAtRest_3 ?_
      refine G_getI hC fl_X7_21 (by first | assumption | rfl) (by omega) dX7_isAtRest_4 ?_
      refine G_icmp_ge (tgt := 42) hC dX7_isAtRest_7 (by decide) (by omega) (by omega) (fun c7 => ?_) (fun c7 => ?_)
      · exact absurd c7 (by omega)
      · refine G_al0 hC dX7_isAtRest_10 ?_
        refine G_il2 hC dX7_isAtRest_11 ?_
        refine G_callVI hC (c_X7_wantsOf hGr ht (by omega)) mv_X7_53 (by first | assumption | rfl) (by omega) (by decide) rfl (by decide) dX7_isAtRest_12 rfl (Nat.le_of_ble_eq_true rfl) rfl (fun z12 M12 P12 h12 => ?_)
        obtain ⟨rfl, rfl, rfl⟩ := h12
        refine G_if_eq (tgt := 36) hC dX7_isAtRest_15 (by decide) (by omega) (fun c15 => ?_) (fun c15 => ?_)
        · refine G_inc2 hC dX7_isAtRest_36 rfl ?_
          refine G_goto (tgt := 2) hC dX7_isAtRest_39 (by decide) ?_
          exact ih (g + 1) (by omega) _ (by omega) (fun k h => by
            rcases Nat.lt_or_ge k g with q | q
            · exact hk k q
            · have : k = g := by omega
              subst this
              first | exact Or.inl (by omega) | (refine Or.inr ?_; cases hb : (W k).testBit (f k) with | true => rfl | false => exact absurd (by rw [hwg.1, hbit, hb]; rfl) c31))
        · refine G_al0 hC dX7_isAtRest_18 ?_
          refine G_il2 hC dX7_isAtRest_19 ?_
          refine G_callVI hC (c_X7_wantsOf hGr ht (by omega)) mv_X7_53 (by first | assumption | rfl) (by omega) (by decide) rfl (by decide) dX7_isAtRest_20 rfl (Nat.le_of_ble_eq_true rfl) rfl (fun z20 M20 P20 h20 => ?_)
          obtain ⟨rfl, rfl, rfl⟩ := h20
          refine G_iconst hC dX7_isAtRest_23 ?_
          refine G_il1 hC dX7_isAtRest_24 ?_
          refine G_il2 hC dX7_isAtRest_25 ?_
          refine G_callSI hC (c_X9_before hf (by omega)) ms_X7_77 (by decide) rfl (by decide) dX7_isAtRest_26 rfl (Nat.le_of_ble_eq_true rfl) rfl (fun z26 M26 P26 h26 => ?_)
          obtain ⟨rfl, rfl, rfl⟩ := h26
          refine G_ishl hC dX7_isAtRest_29 ?_
          refine G_iand hC dX7_isAtRest_30 ?_
          refine G_if_ne (tgt := 36) hC dX7_isAtRest_31 (by decide) (by rw [hwg.1, hbit]; split <;> omega) (fun c31 => ?_) (fun c31 => ?_)
          · refine G_inc2 hC dX7_isAtRest_36 rfl ?_
            refine G_goto (tgt := 2) hC dX7_isAtRest_39 (by decide) ?_
            exact ih (g + 1) (by omega) _ (by omega) (fun k h => by
              rcases Nat.lt_or_ge k g with q | q
              · exact hk k q
              · have : k = g := by omega
                subst this
                first | exact Or.inl (by omega) | (refine Or.inr ?_; cases hb : (W k).testBit (f k) with | true => rfl | false => exact absurd (by rw [hwg.1, hbit, hb]; rfl) c31))
          · refine G_iconst hC dX7_isAtRest_34 ?_
            exact G_zret hC hQ dX7_isAtRest_35 (by omega) ⟨_, rfl, atI_0 (fun q => by
  rcases q g (by omega) with q1 | q1
  · omega
  · rw [hwg.1, hbit, if_pos q1] at c31; omega), rfl, rfl⟩
  refine G_iconst hC dX7_isAtRest_0 ?_
  refine G_is2 hC dX7_isAtRest_1 rfl ?_
  exact hlp (tn T) 0 (by omega) _ rfl (fun k h => by omega)
theorem encK_congr {h h2 : Nat → Nat} : ∀ k, (∀ i, i < k → h i = h2 i) → encK h k = encK h2 k
  | 0, _ => rfl
  | k + 1, e => by unfold encK; rw [encK_congr k (fun i hi => e i (by omega)), e k (by omega)]
def wnt (T : TB) (W : Nat → Nat) (g : Nat) : Nat := if g < tn T then W g else 0
theorem encK_hi {h : Nat → Nat} {n : Nat} (hz : ∀ i, n ≤ i → h i = 0) : ∀ m, encK h (n + m) = encK h n
  | 0 => rfl
  | m + 1 => by
    show encK h (n + m) + 2 ^ (6 * (n + m)) * h (n + m) = _
    rw [encK_hi hz m, hz (n + m) (by omega)]; rfl
set_option maxHeartbeats 4000000 in
set_option maxRecDepth 100000 in
theorem c_X7_wantedPairs {l : Launch} {t : Nat} {T : TB} {W : Nat → Nat} {M : Mem} {P : PMem} (hGr : Gr P) (ht : isT t) (hR : TabR M t T) (hW : TabW M t W) : CtL l yX7_wantedPairs cX7_wantedPairs 4 (some .long) 2 42 45 [vR t] M P (pI (encH (wnt T W)) M P) := by
  refine Ct_of (own := RX7) (L := [vR t, vX 1, vX 1, vX 1]) (by decide) rfl rfl (Nat.le_of_ble_eq_true rfl) (fun X Y hl hC hQ => ?_)
  obtain ⟨hs0, hs1, hs2, hs3, hb3, hp6, hp7, hp8⟩ := isT_all hGr ht
  obtain ⟨hR0, hR2, hR6, hRr, hRr1, hRk, hRw⟩ := id hR
  have hlo : lo64 (wnt T W) := by
    intro i; unfold wnt; split
    · exact (hW i (by omega)).2
    · omega
  have hlp : ∀ n g : Nat, g + n = tn T → ∀ (gv pv : Int), gv = (g : Int) → pv = (encK (wnt T W) g : Int) → G X Y 4 [vR t, vL pv, vX 1, vI gv] [] M P := by
    intro n
    induction n with
    | zero =>
      intro g hg gv pv e1 e2
      subst e1; subst e2
      refine G_il3 hC dX7_wantedPairs_4 ?_
      refine G_al0 hC dX7_wantedPairs_5 ?_
      refine G_getI hC fl_X7_21 (by first | assumption | rfl) (by omega) dX7_wantedPairs_6 ?_
      refine G_icmp_ge (tgt := 30) hC dX7_wantedPairs_9 (by decide) (by omega) (by omega) (fun c9 => ?_) (fun c9 => ?_)
      · refine G_ll1 hC dX7_wantedPairs_30 ?_
        exact G_lret hC hQ dX7_wantedPairs_31 ⟨_, rfl, by
  have := encK_hi (h := wnt T W) (n := tn T) (fun i hi => by unfold wnt; rw [if_neg (by omega)]) (6 - tn T)
  rw [show g = tn T by omega, ← this, show tn T + (6 - tn T) = 6 by omega]; rfl, rfl, rfl⟩
      · exact absurd c9 (by omega)
    | succ n ih =>
      intro g hg gv pv e1 e2
      subst e1; subst e2
      have hwg := hW g (by omega)
      have hwt : W g = wnt T W g := by unfold wnt; rw [if_pos (by omega)]
      refine G_il3 hC dX7_wantedPairs_4 ?_
      refine G_al0 hC dX7_wantedPairs_5 ?_
      refine G_getI hC fl_X7_21 (by first | assumption | rfl) (by omega) dX7_wantedPairs_6 ?_
      refine G_icmp_ge (tgt := 30) hC dX7_wantedPairs_9 (by decide) (by omega) (by omega) (fun c9 => ?_) (fun c9 => ?_)
      · exact absurd c9 (by omega)
      · refine G_ll1 hC dX7_wantedPairs_12 ?_
        refine G_al0 hC dX7_wantedPairs_13 ?_
        refine G_il3 hC dX7_wantedPairs_14 ?_
        refine G_callVI hC (c_X7_wantsOf hGr ht (by omega)) mv_X7_53 (by first | assumption | rfl) (by omega) (by decide) rfl (by decide) dX7_wantedPairs_15 rfl (Nat.le_of_ble_eq_true rfl) rfl (fun z15 M15 P15 h15 => ?_)
        obtain ⟨rfl, rfl, rfl⟩ := h15
        refine G_il3 hC dX7_wantedPairs_18 ?_
        rw [hwg.1]
        refine G_callSL hC (c_X9_shifted (by omega)) ms_X7_108 (by decide) rfl (by decide) dX7_wantedPairs_19 rfl (Nat.le_of_ble_eq_true rfl) rfl (fun z19 M19 P19 h19 => ?_)
        obtain ⟨rfl, rfl, rfl⟩ := h19
        refine G_lor hC dX7_wantedPairs_22 ?_
        refine G_ls1 hC dX7_wantedPairs_23 rfl ?_
        refine G_inc3 hC dX7_wantedPairs_24 rfl ?_
        refine G_goto (tgt := 4) hC dX7_wantedPairs_27 (by decide) ?_
        exact ih (g + 1) (by omega) _ _ (by omega) (by rw [← encK_or hlo (by omega), hwt])
  refine G_lconst (z := 0) hC dX7_wantedPairs_0 (by decide) ?_
  refine G_ls1 hC dX7_wantedPairs_1 rfl ?_
  refine G_iconst hC dX7_wantedPairs_2 ?_
  refine G_is3 hC dX7_wantedPairs_3 rfl ?_
  exact hlp (tn T) 0 (by omega) _ _ rfl rfl
def lik (T : TB) (f : Nat → Nat) (i j : Nat) : Nat := if wo T i (f i) < wo T i (f j) ∧ wo T j (f j) < wo T j (f i) then 1 else 0
set_option maxHeartbeats 4000000 in
set_option maxRecDepth 100000 in
theorem c_X7_bothWouldLike {l : Launch} {t i j : Nat} {T : TB} {f : Nat → Nat} {M : Mem} {P : PMem} (hGr : Gr P) (ht : isT t) (hR : TabR M t T) (hf : lo8 f) (hi : i < tn T) (hj : j < tn T) : CtI l yX7_bothWouldLike cX7_bothWouldLike 6 (some .boolean) 1 22 45 [vR t, vI (enc f), vI i, vI j] M P (pI (lik T f i j) M P) := by
  refine Ct_of (own := RX7) (L := [vR t, vI (enc f), vI i, vI j, vX 1, vX 1]) (by decide) rfl rfl (Nat.le_of_ble_eq_true rfl) (fun X Y hl hC hQ => ?_)
  obtain ⟨hs0, hs1, hs2, hs3, hb3, hp6, hp7, hp8⟩ := isT_all hGr ht
  obtain ⟨hR0, hR2, hR6, hRr, hRr1, hRk, hRw⟩ := id hR
  have w1 := wo_le hR (g := i) (d := f i) (by omega)
  have w2 := wo_le hR (g := i) (d := f j) (by omega)
  have w3 := wo_le hR (g := j) (d := f i) (by omega)
  have w4 := wo_le hR (g := j) (d := f j) (by omega)
  refine G_il1 hC dX7_bothWouldLike_0 ?_
  refine G_il2 hC dX7_bothWouldLike_1 ?_
  refine G_callSI hC (c_X9_before hf (by omega)) ms_X7_77 (by decide) rfl (by decide) dX7_bothWouldLike_2 rfl (Nat.le_of_ble_eq_true rfl) rfl (fun z2 M2 P2 h2 => ?_)
  obtain ⟨rfl, rfl, rfl⟩ := h2
  refine G_is4 hC dX7_bothWouldLike_5 rfl ?_
  refine G_il1 hC dX7_bothWouldLike_7 ?_
  refine G_il3 hC dX7_bothWouldLike_8 ?_
  refine G_callSI hC (c_X9_before hf (by omega)) ms_X7_77 (by decide) rfl (by decide) dX7_bothWouldLike_9 rfl (Nat.le_of_ble_eq_true rfl) rfl (fun z9 M9 P9 h9 => ?_)
  obtain ⟨rfl, rfl, rfl⟩ := h9
  refine G_is5 hC dX7_bothWouldLike_12 rfl ?_
  refine G_al0 hC dX7_bothWouldLike_14 ?_
  refine G_il2 hC dX7_bothWouldLike_15 ?_
  refine G_il5 hC dX7_bothWouldLike_16 ?_
  refine G_callVI hC (c_X7_worthOf hGr ht hR (by omega) (hf j)) mv_X7_56 (by first | assumption | rfl) (by omega) (by decide) rfl (by decide) dX7_bothWouldLike_18 rfl (Nat.le_of_ble_eq_true rfl) rfl (fun z18 M18 P18 h18 => ?_)
  obtain ⟨rfl, rfl, rfl⟩ := h18
  refine G_al0 hC dX7_bothWouldLike_21 ?_
  refine G_il2 hC dX7_bothWouldLike_22 ?_
  refine G_il4 hC dX7_bothWouldLike_23 ?_
  refine G_callVI hC (c_X7_worthOf hGr ht hR (by omega) (hf i)) mv_X7_56 (by first | assumption | rfl) (by omega) (by decide) rfl (by decide) dX7_bothWouldLike_25 rfl (Nat.le_of_ble_eq_true rfl) rfl (fun z25 M25 P25 h25 => ?_)
  obtain ⟨rfl, rfl, rfl⟩ := h25
  refine G_icmp_le (tgt := 52) hC dX7_bothWouldLike_28 (by decide) (by omega) (by omega) (fun c28 => ?_) (fun c28 => ?_)
  · refine G_iconst hC dX7_bothWouldLike_52 ?_
    exact G_zret hC hQ dX7_bothWouldLike_53 (by omega) ⟨_, rfl, by unfold lik; split <;> omega, rfl, rfl⟩
  · refine G_al0 hC dX7_bothWouldLike_31 ?_
    refine G_il3 hC dX7_bothWouldLike_32 ?_
    refine G_il4 hC dX7_bothWouldLike_33 ?_
    refine G_callVI hC (c_X7_worthOf hGr ht hR (by omega) (hf i)) mv_X7_56 (by first | assumption | rfl) (by omega) (by decide) rfl (by decide) dX7_bothWouldLike_35 rfl (Nat.le_of_ble_eq_true rfl) rfl (fun z35 M35 P35 h35 => ?_)
    obtain ⟨rfl, rfl, rfl⟩ := h35
    refine G_al0 hC dX7_bothWouldLike_38 ?_
    refine G_il3 hC dX7_bothWouldLike_39 ?_
    refine G_il5 hC dX7_bothWouldLike_40 ?_
    refine G_callVI hC (c_X7_worthOf hGr ht hR (by omega) (hf j)) mv_X7_56 (by first | assumption | rfl) (by omega) (by decide) rfl (by decide) dX7_bothWouldLike_42 rfl (Nat.le_of_ble_eq_true rfl) rfl (fun z42 M42 P42 h42 => ?_)
    obtain ⟨rfl, rfl, rfl⟩ := h42
    refine G_icmp_le (tgt := 52) hC dX7_bothWouldLike_45 (by decide) (by omega) (by omega) (fun c45 => ?_) (fun c45 => ?_)
    · refine G_iconst hC dX7_bothWouldLike_52 ?_
      exact G_zret hC hQ dX7_bothWouldLike_53 (by omega) ⟨_, rfl, by unfold lik; split <;> omega, rfl, rfl⟩
    · refine G_iconst hC dX7_bothWouldLike_48 ?_
      refine G_goto (tgt := 53) hC dX7_bothWouldLike_49 (by decide) ?_
      exact G_zret hC hQ dX7_bothWouldLike_53 (by omega) ⟨_, rfl, by unfold lik; split <;> omega, rfl, rfl⟩
/-! moments -/
def isMo (m : Nat) : Prop := m = 37 ∨ m = 41
theorem isMo_all {P : PMem} {m : Nat} (hGr : Gr P) (hm : isMo m) : shp m = (2, 0) ∧ shp (m + 1) = (11, 8) ∧ shp (m + 2) = (12, 8) ∧ shp (m + 3) = (11, 8) ∧ 36 < m ∧ m + 3 < 45 ∧ P m 2 = some (m + 1) ∧ P m 3 = some (m + 2) ∧ P m 4 = some (m + 3) ∧ shp 36 = (1, 0) := by
  rcases hm with rfl | rfl <;> exact ⟨rfl, rfl, rfl, rfl, by omega, by omega, hGr _ _ _ rfl, hGr _ _ _ rfl, hGr _ _ _ rfl, rfl⟩
def adM (M : Mem) (m n : Nat) : Mem := upM (upM (upM (upM M (m + 1) n (M 36 0)) (m + 2) n (M 36 1)) (m + 3) n (M 36 2)) m 0 (n + 1)
/-- the places below k - 1 moved down by one -/
def doL (M : Mem) (m k : Nat) : Mem := fun a b => if (a = m + 1 ∨ a = m + 2 ∨ a = m + 3) ∧ b + 1 < k then M a (b + 1) else M a b
def doM (M : Mem) (m n : Nat) : Mem := upM (doL M m n) m 0 (n - 1)
def taM (M : Mem) (m n : Nat) : Mem := upM (upM (upM (upM M m 0 n) 36 0 (M (m + 1) n)) 36 1 (M (m + 2) n)) 36 2 (M (m + 3) n)
theorem doL_s {M : Mem} {m k : Nat} (hk : 1 ≤ k) : upM (upM (upM (doL M m k) (m + 1) (k - 1) (doL M m k (m + 1) k)) (m + 2) (k - 1) (upM (doL M m k) (m + 1) (k - 1) (doL M m k (m + 1) k) (m + 2) k)) (m + 3) (k - 1) (upM (upM (doL M m k) (m + 1) (k - 1) (doL M m k (m + 1) k)) (m + 2) (k - 1) (upM (doL M m k) (m + 1) (k - 1) (doL M m k (m + 1) k) (m + 2) k) (m + 3) k) = doL M m (k + 1) := by
  have e : ∀ a, doL M m k a k = M a k := fun a => by unfold doL; rw [if_neg (by omega)]
  rw [upM_ne (show m + 3 ≠ m + 2 by omega), upM_ne (show m + 3 ≠ m + 1 by omega), upM_ne (show m + 2 ≠ m + 1 by omega), e, e, e]
  funext a b
  simp only [upM]
  by_cases h : (a = m + 1 ∨ a = m + 2 ∨ a = m + 3) ∧ b + 1 < k + 1
  · unfold doL
    rw [if_pos (show (a = m + 1 ∨ a = m + 2 ∨ a = m + 3) ∧ b + 1 < k + 1 from h)]
    by_cases hb : b = k - 1
    · rcases h.1 with q | q | q
      · rw [if_neg (by omega), if_neg (by omega), if_pos ⟨q, hb⟩, q]; congr 1; omega
      · rw [if_neg (by omega), if_pos ⟨q, hb⟩, q]; congr 1; omega
      · rw [if_pos ⟨q, hb⟩, q]; congr 1; omega
    · rw [if_neg (by omega), if_neg (by omega), if_neg (by omega), if_pos ⟨h.1, by omega⟩]
  · unfold doL
    rw [if_neg h, if_neg (by omega), if_neg (by omega), if_neg (by omega), if_neg (by omega)]
theorem doL_1 {M : Mem} {m : Nat} : M = doL M m 1 := by funext a b; unfold doL; rw [if_neg (by omega)]
theorem doL_m {M : Mem} {m k j : Nat} : doL M m k m j = M m j := by unfold doL; rw [if_neg (by omega)]
set_option maxHeartbeats 4000000 in
set_option maxRecDepth 100000 in
theorem c_X2_dropOldest {l : Launch} {m n : Nat} {M : Mem} {P : PMem} (hGr : Gr P) (hm : isMo m) (hn : M m 0 = (n : Int)) (h1 : 1 ≤ n) (h8 : n ≤ 8) : CtV l yX2_dropOldest cX2_dropOldest 2 none 1 21 45 [vR m] M P (pV (doM M m n) P) := by
  refine Ct_of (own := RX2) (L := [vR m, vX 1]) (by decide) rfl rfl (Nat.le_of_ble_eq_true rfl) (fun X Y hl hC hQ => ?_)
  obtain ⟨hs0, hs1, hs2, hs3, hb0, hb3, hp2, hp3, hp4, hsn⟩ := isMo_all hGr hm
  have hlp : ∀ c k : Nat, k + c = n → 1 ≤ k → ∀ (kv : Int) (M1 : Mem), kv = (k : Int) → M1 = doL M m k → G X Y 2 [vR m, vI kv] [] M1 P := by
    intro c
    induction c with
    | zero =>
      intro k hk h1 kv M1 e1 e2
      subst e1; subst e2
      have hdm := doL_m (M := M) (m := m) (k := k) (j := 0)
      refine G_il1 hC dX2_dropOldest_2 ?_
      refine G_al0 hC dX2_dropOldest_3 ?_
      refine G_getI hC fl_X2_32 (by first | assumption | rfl) (by omega) dX2_dropOldest_4 ?_
      refine G_icmp_ge (tgt := 64) hC dX2_dropOldest_7 (by decide) (by omega) (by omega) (fun c7 => ?_) (fun c7 => ?_)
      · refine G_al0 hC dX2_dropOldest_64 ?_
        refine G_iconst hC dX2_dropOldest_65 ?_
        refine G_al0 hC dX2_dropOldest_66 ?_
        refine G_getI hC fl_X2_32 (by first | assumption | rfl) (by omega) dX2_dropOldest_67 ?_
        refine G_iconst hC dX2_dropOldest_70 ?_
        refine G_isub hC dX2_dropOldest_71 ?_
        refine G_max hC mm_X2_50 (by omega) (by omega) rfl (by decide) (Nat.le_of_ble_eq_true rfl) dX2_dropOldest_72 ?_
        refine G_putI hC fl_X2_32 (by first | assumption | rfl) (by omega) dX2_dropOldest_75 ?_
        exact G_vret hC hQ dX2_dropOldest_78 ⟨rfl, by unfold doM; rw [show n = k by omega]; congr 1; rw [hdm, hn]; omega, rfl⟩
      · exact absurd c7 (by omega)
    | succ c ih =>
      intro k hk h1 kv M1 e1 e2
      subst e1; subst e2
      have hdm := doL_m (M := M) (m := m) (k := k) (j := 0)
      refine G_il1 hC dX2_dropOldest_2 ?_
      refine G_al0 hC dX2_dropOldest_3 ?_
      refine G_getI hC fl_X2_32 (by first | assumption | rfl) (by omega) dX2_dropOldest_4 ?_
      refine G_icmp_ge (tgt := 64) hC dX2_dropOldest_7 (by decide) (by omega) (by omega) (fun c7 => ?_) (fun c7 => ?_)
      · exact absurd c7 (by omega)
      · refine G_il1 hC dX2_dropOldest_10 ?_
        refine G_bipush hC dX2_dropOldest_11 (by decide) ?_
        refine G_icmp_ge (tgt := 64) hC dX2_dropOldest_13 (by decide) (by omega) (by omega) (fun c13 => ?_) (fun c13 => ?_)
        · exact absurd c13 (by omega)
        · refine G_al0 hC dX2_dropOldest_16 ?_
          refine G_getR hC fl_X2_9 (by first | assumption | rfl) (by omega) (by first | assumption | exact hGr _ _ _ rfl) dX2_dropOldest_17 ?_
          refine G_il1 hC dX2_dropOldest_20 ?_
          refine G_iconst hC dX2_dropOldest_21 ?_
          refine G_isub hC dX2_dropOldest_22 ?_
          refine G_al0 hC dX2_dropOldest_23 ?_
          refine G_getR hC fl_X2_9 (by first | assumption | rfl) (by omega) (by first | assumption | exact hGr _ _ _ rfl) dX2_dropOldest_24 ?_
          refine G_il1 hC dX2_dropOldest_27 ?_
          refine G_iaload hC (by first | assumption | rfl) (by omega) (by omega) dX2_dropOldest_28 ?_
          refine G_iastore hC (by first | assumption | rfl) (by omega) (by omega) dX2_dropOldest_29 ?_
          refine G_al0 hC dX2_dropOldest_30 ?_
          refine G_getR hC fl_X2_15 (by first | assumption | rfl) (by omega) (by first | assumption | exact hGr _ _ _ rfl) dX2_dropOldest_31 ?_
          refine G_il1 hC dX2_dropOldest_34 ?_
          refine G_iconst hC dX2_dropOldest_35 ?_
          refine G_isub hC dX2_dropOldest_36 ?_
          refine G_al0 hC dX2_dropOldest_37 ?_
          refine G_getR hC fl_X2_15 (by first | assumption | rfl) (by omega) (by first | assumption | exact hGr _ _ _ rfl) dX2_dropOldest_38 ?_
          refine G_il1 hC dX2_dropOldest_41 ?_
          refine G_laload hC (by first | assumption | rfl) (by omega) (by omega) dX2_dropOldest_42 ?_
          refine G_lastore hC (by first | assumption | rfl) (by omega) (by omega) dX2_dropOldest_43 ?_
          refine G_al0 hC dX2_dropOldest_44 ?_
          refine G_getR hC fl_X2_19 (by first | assumption | rfl) (by omega) (by first | assumption | exact hGr _ _ _ rfl) dX2_dropOldest_45 ?_
          refine G_il1 hC dX2_dropOldest_48 ?_
          refine G_iconst hC dX2_dropOldest_49 ?_
          refine G_isub hC dX2_dropOldest_50 ?_
          refine G_al0 hC dX2_dropOldest_51 ?_
          refine G_getR hC fl_X2_19 (by first | assumption | rfl) (by omega) (by first | assumption | exact hGr _ _ _ rfl) dX2_dropOldest_52 ?_
          refine G_il1 hC dX2_dropOldest_55 ?_
          refine G_iaload hC (by first | assumption | rfl) (by omega) (by omega) dX2_dropOldest_56 ?_
          refine G_iastore hC (by first | assumption | rfl) (by omega) (by omega) dX2_dropOldest_57 ?_
          refine G_inc1 hC dX2_dropOldest_58 rfl ?_
          refine G_goto (tgt := 2) hC dX2_dropOldest_61 (by decide) ?_
          exact ih (k + 1) (by omega) (by omega) _ _ (by omega) (by rw [show ((k : Int) - 1).toNat = k - 1 by omega, show (k : Int).toNat = k by omega]; exact doL_s h1)
  refine G_iconst hC dX2_dropOldest_0 ?_
  refine G_is1 hC dX2_dropOldest_1 rfl ?_
  exact hlp (n - 1) 1 (by omega) (by omega) _ _ rfl doL_1
theorem doM_0 {M : Mem} {m n : Nat} : doM M m n m 0 = (n : Int) - 1 := by unfold doM; rw [upM_self]
theorem doM_36 {M : Mem} {m n j : Nat} (h : 36 < m) : doM M m n 36 j = M 36 j := by
  unfold doM; rw [upM_ne (by omega)]; unfold doL; rw [if_neg (by omega)]
set_option maxHeartbeats 4000000 in
set_option maxRecDepth 100000 in
theorem c_X2_addLast1 {l : Launch} {m n r : Nat} {M : Mem} {P : PMem} (hGr : Gr P) (hm : isMo m) (hn : M m 0 = (n : Int)) (hr : M m 1 = (r : Int)) (h1 : n < r) (h8 : r ≤ 8) : CtV l yX2_addLast cX2_addLast 2 none 2 42 45 [vR m, vR 36] M P (pV (adM M m n) P) := by
  refine Ct_of (own := RX2) (L := [vR m, vR 36]) (by decide) rfl rfl (Nat.le_of_ble_eq_true rfl) (fun X Y hl hC hQ => ?_)
  obtain ⟨hs0, hs1, hs2, hs3, hb0, hb3, hp2, hp3, hp4, hsn⟩ := isMo_all hGr hm
  refine G_al0 hC dX2_addLast_0 ?_
  refine G_getI hC fl_X2_32 (by first | assumption | rfl) (by omega) dX2_addLast_1 ?_
  refine G_al0 hC dX2_addLast_4 ?_
  refine G_getI hC fl_X2_28 (by first | assumption | rfl) (by omega) dX2_addLast_5 ?_
  refine G_icmp_lt (tgt := 15) hC dX2_addLast_8 (by decide) (by omega) (by omega) (fun c8 => ?_) (fun c8 => ?_)
  · refine G_al0 hC dX2_addLast_15 ?_
    refine G_getI hC fl_X2_32 (by first | assumption | rfl) (by omega) dX2_addLast_16 ?_
    refine G_if_lt (tgt := 80) hC dX2_addLast_19 (by decide) (by omega) (fun c19 => ?_) (fun c19 => ?_)
    · exact absurd c19 (by omega)
    · refine G_al0 hC dX2_addLast_22 ?_
      refine G_getI hC fl_X2_32 (by first | assumption | rfl) (by omega) dX2_addLast_23 ?_
      refine G_bipush hC dX2_addLast_26 (by decide) ?_
      refine G_icmp_ge (tgt := 80) hC dX2_addLast_28 (by decide) (by omega) (by omega) (fun c28 => ?_) (fun c28 => ?_)
      · exact absurd c28 (by omega)
      · refine G_al0 hC dX2_addLast_31 ?_
        refine G_getR hC fl_X2_9 (by first | assumption | rfl) (by omega) (by first | assumption | exact hGr _ _ _ rfl) dX2_addLast_32 ?_
        refine G_al0 hC dX2_addLast_35 ?_
        refine G_getI hC fl_X2_32 (by first | assumption | rfl) (by omega) dX2_addLast_36 ?_
        refine G_al1 hC dX2_addLast_39 ?_
        refine G_getI hC fl_X2_38 (by first | assumption | rfl) (by omega) dX2_addLast_40 ?_
        refine G_iastore hC (by first | assumption | rfl) (by omega) (by omega) dX2_addLast_43 ?_
        refine G_al0 hC dX2_addLast_44 ?_
        refine G_getR hC fl_X2_15 (by first | assumption | rfl) (by omega) (by first | assumption | exact hGr _ _ _ rfl) dX2_addLast_45 ?_
        refine G_al0 hC dX2_addLast_48 ?_
        refine G_getI hC fl_X2_32 (by first | assumption | rfl) (by omega) dX2_addLast_49 ?_
        rw [upM_ne (show m ≠ m + 1 by omega)]
        refine G_al1 hC dX2_addLast_52 ?_
        refine G_getL hC fl_X2_43 (by first | assumption | rfl) (by omega) dX2_addLast_53 ?_
        refine G_lastore hC (by first | assumption | rfl) (by omega) (by omega) dX2_addLast_56 ?_
        refine G_al0 hC dX2_addLast_57 ?_
        refine G_getR hC fl_X2_19 (by first | assumption | rfl) (by omega) (by first | assumption | exact hGr _ _ _ rfl) dX2_addLast_58 ?_
        refine G_al0 hC dX2_addLast_61 ?_
        refine G_getI hC fl_X2_32 (by first | assumption | rfl) (by omega) dX2_addLast_62 ?_
        simp only [upM_ne (show m ≠ m + 1 by omega), upM_ne (show m ≠ m + 2 by omega)]
        refine G_al1 hC dX2_addLast_65 ?_
        refine G_getI hC fl_X2_47 (by first | assumption | rfl) (by omega) dX2_addLast_66 ?_
        refine G_iastore hC (by first | assumption | rfl) (by omega) (by omega) dX2_addLast_69 ?_
        refine G_al0 hC dX2_addLast_70 ?_
        refine G_dup hC dX2_addLast_71 rfl ?_
        refine G_getI hC fl_X2_32 (by first | assumption | rfl) (by omega) dX2_addLast_72 ?_
        refine G_iconst hC dX2_addLast_75 ?_
        refine G_iadd hC dX2_addLast_76 ?_
        refine G_putI hC fl_X2_32 (by first | assumption | rfl) (by omega) dX2_addLast_77 ?_
        exact G_vret hC hQ dX2_addLast_80 ⟨rfl, by
  unfold adM
  simp only [upM_ne (show (36 : Nat) ≠ m + 1 by omega), upM_ne (show (36 : Nat) ≠ m + 2 by omega), upM_ne (show m ≠ m + 1 by omega), upM_ne (show m ≠ m + 2 by omega), upM_ne (show m ≠ m + 3 by omega), hn, show ((n : Nat) : Int).toNat = n by omega], rfl⟩
  · exact absurd c8 (by omega)
set_option maxHeartbeats 4000000 in
set_option maxRecDepth 100000 in
theorem c_X2_addLast2 {l : Launch} {m n : Nat} {M : Mem} {P : PMem} (hGr : Gr P) (hm : isMo m) (hn : M m 0 = (n : Int)) (hr : M m 1 = (n : Int)) (h1 : 1 ≤ n) (h8 : n ≤ 8) : CtV l yX2_addLast cX2_addLast 2 none 2 42 45 [vR m, vR 36] M P (pV (adM (doM M m n) m (n - 1)) P) := by
  refine Ct_of (own := RX2) (L := [vR m, vR 36]) (by decide) rfl rfl (Nat.le_of_ble_eq_true rfl) (fun X Y hl hC hQ => ?_)
  obtain ⟨hs0, hs1, hs2, hs3, hb0, hb3, hp2, hp3, hp4, hsn⟩ := isMo_all hGr hm
  refine G_al0 hC dX2_addLast_0 ?_
  refine G_getI hC fl_X2_32 (by first | assumption | rfl) (by omega) dX2_addLast_1 ?_
  refine G_al0 hC dX2_addLast_4 ?_
  refine G_getI hC fl_X2_28 (by first | assumption | rfl) (by omega) dX2_addLast_5 ?_
  refine G_icmp_lt (tgt := 15) hC dX2_addLast_8 (by decide) (by omega) (by omega) (fun c8 => ?_) (fun c8 => ?_)
  · exact absurd c8 (by omega)
  · refine G_al0 hC dX2_addLast_11 ?_
    refine G_callVV hC (c_X2_dropOldest hGr hm hn (by omega) (by omega)) mv_X2_35 (by first | assumption | rfl) (by omega) (by decide) rfl (by decide) dX2_addLast_12 rfl (Nat.le_of_ble_eq_true rfl) rfl (fun M12 P12 h12 => ?_)
    obtain ⟨rfl, rfl⟩ := h12
    have hz := doM_0 (M := M) (m := m) (n := n)
    refine G_al0 hC dX2_addLast_15 ?_
    refine G_getI hC fl_X2_32 (by first | assumption | rfl) (by omega) dX2_addLast_16 ?_
    refine G_if_lt (tgt := 80) hC dX2_addLast_19 (by decide) (by omega) (fun c19 => ?_) (fun c19 => ?_)
    · exact absurd c19 (by omega)
    · refine G_al0 hC dX2_addLast_22 ?_
      refine G_getI hC fl_X2_32 (by first | assumption | rfl) (by omega) dX2_addLast_23 ?_
      refine G_bipush hC dX2_addLast_26 (by decide) ?_
      refine G_icmp_ge (tgt := 80) hC dX2_addLast_28 (by decide) (by omega) (by omega) (fun c28 => ?_) (fun c28 => ?_)
      · exact absurd c28 (by omega)
      · refine G_al0 hC dX2_addLast_31 ?_
        refine G_getR hC fl_X2_9 (by first | assumption | rfl) (by omega) (by first | assumption | exact hGr _ _ _ rfl) dX2_addLast_32 ?_
        refine G_al0 hC dX2_addLast_35 ?_
        refine G_getI hC fl_X2_32 (by first | assumption | rfl) (by omega) dX2_addLast_36 ?_
        refine G_al1 hC dX2_addLast_39 ?_
        refine G_getI hC fl_X2_38 (by first | assumption | rfl) (by omega) dX2_addLast_40 ?_
        refine G_iastore hC (by first | assumption | rfl) (by omega) (by omega) dX2_addLast_43 ?_
        refine G_al0 hC dX2_addLast_44 ?_
        refine G_getR hC fl_X2_15 (by first | assumption | rfl) (by omega) (by first | assumption | exact hGr _ _ _ rfl) dX2_addLast_45 ?_
        refine G_al0 hC dX2_addLast_48 ?_
        refine G_getI hC fl_X2_32 (by first | assumption | rfl) (by omega) dX2_addLast_49 ?_
        rw [upM_ne (show m ≠ m + 1 by omega)]
        refine G_al1 hC dX2_addLast_52 ?_
        refine G_getL hC fl_X2_43 (by first | assumption | rfl) (by omega) dX2_addLast_53 ?_
        refine G_lastore hC (by first | assumption | rfl) (by omega) (by omega) dX2_addLast_56 ?_
        refine G_al0 hC dX2_addLast_57 ?_
        refine G_getR hC fl_X2_19 (by first | assumption | rfl) (by omega) (by first | assumption | exact hGr _ _ _ rfl) dX2_addLast_58 ?_
        refine G_al0 hC dX2_addLast_61 ?_
        refine G_getI hC fl_X2_32 (by first | assumption | rfl) (by omega) dX2_addLast_62 ?_
        simp only [upM_ne (show m ≠ m + 1 by omega), upM_ne (show m ≠ m + 2 by omega)]
        refine G_al1 hC dX2_addLast_65 ?_
        refine G_getI hC fl_X2_47 (by first | assumption | rfl) (by omega) dX2_addLast_66 ?_
        refine G_iastore hC (by first | assumption | rfl) (by omega) (by omega) dX2_addLast_69 ?_
        refine G_al0 hC dX2_addLast_70 ?_
        refine G_dup hC dX2_addLast_71 rfl ?_
        refine G_getI hC fl_X2_32 (by first | assumption | rfl) (by omega) dX2_addLast_72 ?_
        refine G_iconst hC dX2_addLast_75 ?_
        refine G_iadd hC dX2_addLast_76 ?_
        refine G_putI hC fl_X2_32 (by first | assumption | rfl) (by omega) dX2_addLast_77 ?_
        exact G_vret hC hQ dX2_addLast_80 ⟨rfl, by
  unfold adM
  simp only [upM_ne (show (36 : Nat) ≠ m + 1 by omega), upM_ne (show (36 : Nat) ≠ m + 2 by omega), upM_ne (show m ≠ m + 1 by omega), upM_ne (show m ≠ m + 2 by omega), upM_ne (show m ≠ m + 3 by omega), hz, show ((n : Int) - 1).toNat = n - 1 by omega]
  congr 1; omega, rfl⟩
set_option maxHeartbeats 4000000 in
set_option maxRecDepth 100000 in
theorem c_X2_takeLast {l : Launch} {m n : Nat} {M : Mem} {P : PMem} (hGr : Gr P) (hm : isMo m) (hn : M m 0 = (n : Int) + 1) (h8 : n < 8) : CtV l yX2_takeLast cX2_takeLast 2 none 0 0 45 [vR m, vR 36] M P (pV (taM M m n) P) := by
  refine Ct_of (own := RX2) (L := [vR m, vR 36]) (by decide) rfl rfl (Nat.le_of_ble_eq_true rfl) (fun X Y hl hC hQ => ?_)
  obtain ⟨hs0, hs1, hs2, hs3, hb0, hb3, hp2, hp3, hp4, hsn⟩ := isMo_all hGr hm
  refine G_al0 hC dX2_takeLast_0 ?_
  refine G_getI hC fl_X2_32 (by first | assumption | rfl) (by omega) dX2_takeLast_1 ?_
  refine G_if_le (tgt := 65) hC dX2_takeLast_4 (by decide) (by omega) (fun c4 => ?_) (fun c4 => ?_)
  · exact absurd c4 (by omega)
  · refine G_al0 hC dX2_takeLast_7 ?_
    refine G_getI hC fl_X2_32 (by first | assumption | rfl) (by omega) dX2_takeLast_8 ?_
    refine G_bipush hC dX2_takeLast_11 (by decide) ?_
    refine G_icmp_gt (tgt := 65) hC dX2_takeLast_13 (by decide) (by omega) (by omega) (fun c13 => ?_) (fun c13 => ?_)
    · exact absurd c13 (by omega)
    · refine G_al0 hC dX2_takeLast_16 ?_
      refine G_dup hC dX2_takeLast_17 rfl ?_
      refine G_getI hC fl_X2_32 (by first | assumption | rfl) (by omega) dX2_takeLast_18 ?_
      refine G_iconst hC dX2_takeLast_21 ?_
      refine G_isub hC dX2_takeLast_22 ?_
      refine G_putI hC fl_X2_32 (by first | assumption | rfl) (by omega) dX2_takeLast_23 ?_
      refine G_al1 hC dX2_takeLast_26 ?_
      refine G_al0 hC dX2_takeLast_27 ?_
      refine G_getR hC fl_X2_9 (by first | assumption | rfl) (by omega) (by first | assumption | exact hGr _ _ _ rfl) dX2_takeLast_28 ?_
      refine G_al0 hC dX2_takeLast_31 ?_
      refine G_getI hC fl_X2_32 (by first | assumption | rfl) (by omega) dX2_takeLast_32 ?_
      rw [upM_self]
      refine G_iaload hC (by first | assumption | rfl) (by omega) (by omega) dX2_takeLast_35 ?_
      refine G_putI hC fl_X2_38 (by first | assumption | rfl) (by omega) dX2_takeLast_36 ?_
      refine G_al1 hC dX2_takeLast_39 ?_
      refine G_al0 hC dX2_takeLast_40 ?_
      refine G_getR hC fl_X2_15 (by first | assumption | rfl) (by omega) (by first | assumption | exact hGr _ _ _ rfl) dX2_takeLast_41 ?_
      refine G_al0 hC dX2_takeLast_44 ?_
      refine G_getI hC fl_X2_32 (by first | assumption | rfl) (by omega) dX2_takeLast_45 ?_
      rw [upM_ne (show m ≠ 36 by omega), upM_self]
      refine G_laload hC (by first | assumption | rfl) (by omega) (by omega) dX2_takeLast_48 ?_
      refine G_putL hC fl_X2_43 (by first | assumption | rfl) (by omega) dX2_takeLast_49 ?_
      refine G_al1 hC dX2_takeLast_52 ?_
      refine G_al0 hC dX2_takeLast_53 ?_
      refine G_getR hC fl_X2_19 (by first | assumption | rfl) (by omega) (by first | assumption | exact hGr _ _ _ rfl) dX2_takeLast_54 ?_
      refine G_al0 hC dX2_takeLast_57 ?_
      refine G_getI hC fl_X2_32 (by first | assumption | rfl) (by omega) dX2_takeLast_58 ?_
      rw [upM_ne (show m ≠ 36 by omega), upM_ne (show m ≠ 36 by omega), upM_self]
      refine G_iaload hC (by first | assumption | rfl) (by omega) (by omega) dX2_takeLast_61 ?_
      refine G_putI hC fl_X2_47 (by first | assumption | rfl) (by omega) dX2_takeLast_62 ?_
      exact G_vret hC hQ dX2_takeLast_65 ⟨rfl, by
  unfold taM
  simp only [upM_ne (show m + 1 ≠ m by omega), upM_ne (show m + 2 ≠ m by omega), upM_ne (show m + 3 ≠ m by omega), upM_ne (show m + 2 ≠ 36 by omega), upM_ne (show m + 3 ≠ 36 by omega), hn, show ((n : Int) + 1 - 1) = n by omega, show ((n : Nat) : Int).toNat = n by omega], rfl⟩
