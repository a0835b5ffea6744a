/-! askings by numbers -/
noncomputable def mvN (M : Mem) (T : TB) (q i j : Nat) : Nat := by classical exact if can T (dgf q) i j then (numO M (enc (aft T (dgf q) i j))).toNat else 1023
theorem mvN_1 {M : Mem} {T : TB} {q i j : Nat} (h : can T (dgf q) i j) : mvN M T q i j = (numO M (enc (aft T (dgf q) i j))).toNat := by unfold mvN; rw [if_pos h]
theorem mvN_0 {M : Mem} {T : TB} {q i j : Nat} (h : ¬ can T (dgf q) i j) : mvN M T q i j = 1023 := by unfold mvN; rw [if_neg h]
theorem mvN_le {M : Mem} {T : TB} {q i j : Nat} (hB : LyB M) : mvN M T q i j ≤ 1023 := by
  by_cases h : can T (dgf q) i j
  · rw [mvN_1 h]; rcases numO_r hB (enc (aft T (dgf q) i j)) with r | r <;> omega
  · rw [mvN_0 h]; omega
def rrC (to : Nat → Nat) : Nat → Nat
  | 0 => 0
  | c + 1 => rrC to c * 1024 + to (5 - c)
theorem rr_lt {to : Nat → Nat} (h : ∀ j, to j ≤ 1023) : ∀ c, c ≤ 6 → rrC to c < 1024 ^ c
  | 0, _ => by simp [rrC]
  | c + 1, hc => by
    have ih := rr_lt h c (by omega)
    have h1 := h (5 - c)
    unfold rrC
    rw [Nat.pow_succ]
    omega
theorem rr_dig {to : Nat → Nat} (h : ∀ j, to j ≤ 1023) {a : Nat} (ha : a < 6) : rrC to 6 / 2 ^ (10 * a) % 1024 = to a := by
  have h0 := h 0; have h1 := h 1; have h2 := h 2; have h3 := h 3; have h4 := h 4; have h5 := h 5
  simp only [rrC]
  rcases (show a = 0 ∨ a = 1 ∨ a = 2 ∨ a = 3 ∨ a = 4 ∨ a = 5 by omega) with rfl | rfl | rfl | rfl | rfl | rfl <;> simp only [Nat.reduceMul, Nat.reducePow, Nat.reduceSub, Nat.sub_self, Nat.sub_zero] <;> omega
theorem bAnd_mask10 (a : Nat) : bAnd a 1023 = ((a % 1024 : Nat) : Int) := by
  unfold bAnd
  rw [i32_Na, show Int32.ofInt 1023 = nI 1023 from by decide, nx_and', show (1023 : Nat) = 2 ^ 10 - 1 by rfl, Nat.and_two_pow_sub_one_eq_mod, nI_toInt (by omega)]
theorem p1024 {c : Nat} (h : c ≤ 6) : 1024 ^ c ≤ 1024 ^ 6 := Nat.pow_le_pow_right (by omega) h
theorem rr_or {to : Nat → Nat} (h : ∀ j, to j ≤ 1023) {c : Nat} (hc : c < 6) : lOr (lShl (rrC to c) 10) (to (5 - c)) = ((rrC to (c + 1) : Nat) : Int) := by
  have h1 := rr_lt h c (by omega)
  have h2 := p1024 (c := c + 1) (by omega)
  have h3 := h (5 - c)
  have h4 : (1024 : Nat) ^ 6 = 1152921504606846976 := by decide
  rw [Nat.pow_succ] at h2
  rw [show (10 : Int) = ((10 : Nat) : Int) by rfl, lShl_n (by omega) (by omega), lOr_n (by omega) (by omega)]
  rw [show rrC to c * 2 ^ 10 = 2 ^ 10 * rrC to c + 0 by omega, show to (5 - c) = 2 ^ 10 * 0 + to (5 - c) by omega, sp_or (by omega) (by omega), Nat.or_zero, Nat.zero_or]
  congr 1
  show _ = rrC to c * 1024 + to (5 - c)
  omega
theorem upM_same (M : Mem) (k j : Nat) : upM M k j (M k j) = M := by
  funext a b; simp only [upM]; split
  · rename_i h; rw [h.1, h.2]
  · rfl
def isMv (mv tb len : Nat) : Prop := (mv = 15 ∧ tb = 8 ∧ len = 4320) ∨ (mv = 31 ∧ tb = 26 ∧ len = 0)
theorem isMv_all {P : PMem} {mv tb len : Nat} (hGr : Gr P) (h : isMv mv tb len) : shp mv = (3, 0) ∧ shp (mv + 1) = (12, len) ∧ shp tb = (7, 0) ∧ isT tb ∧ P mv 0 = some tb ∧ P mv 1 = some 12 ∧ P mv 2 = some (mv + 1) ∧ mv + 1 < 45 ∧ tb < 45 ∧ len ≤ 4320 ∧ 14 < mv := by
  rcases h with ⟨rfl, rfl, rfl⟩ | ⟨rfl, rfl, rfl⟩
  · exact ⟨rfl, rfl, rfl, Or.inr (Or.inl rfl), hGr _ _ _ rfl, hGr _ _ _ rfl, hGr _ _ _ rfl, by omega, by omega, by omega, by omega⟩
  · exact ⟨rfl, rfl, rfl, Or.inr (Or.inr rfl), hGr _ _ _ rfl, hGr _ _ _ rfl, hGr _ _ _ rfl, by omega, by omega, by omega, by omega⟩
set_option maxHeartbeats 4000000 in
set_option maxRecDepth 100000 in
theorem c_X3_target {l : Launch} {to : Nat → Nat} {a : Nat} {M : Mem} {P : PMem} (hto : ∀ j, to j ≤ 1023) (ha : a < 6) : CtI l yX3_target cX3_target 3 (some .int) 0 0 0 [vL (rrC to 6), vI a] M P (pI (to a) M P) := by
  refine Ct_of (own := RX3) (L := [vL (rrC to 6), vX 1, vI a]) (by decide) rfl rfl (Nat.le_of_ble_eq_true rfl) (fun X Y hl hC hQ => ?_)
  have h1 := rr_lt hto 6 (by omega)
  have h4 : (1024 : Nat) ^ 6 = 1152921504606846976 := by decide
  refine G_ll0 hC dX3_target_0 ?_
  refine G_bipush hC dX3_target_1 (by decide) ?_
  refine G_il2 hC dX3_target_3 ?_
  refine G_imul hC dX3_target_4 ?_
  refine G_lshr hC dX3_target_5 ?_
  refine G_l2i hC dX3_target_6 ?_
  refine G_sipush hC dX3_target_7 (by decide) ?_
  refine G_iand hC dX3_target_10 ?_
  exact G_iret hC hQ dX3_target_11 ⟨_, rfl, by rw [show (10 * (a : Int)) = ((10 * a : Nat) : Int) by omega, lShr_n (by omega) (by omega), bAnd_mask10, rr_dig hto ha], rfl, rfl⟩
set_option maxHeartbeats 4000000 in
set_option maxRecDepth 100000 in
theorem c_X3_forget {l : Launch} {mv tb len : Nat} {M : Mem} {P : PMem} (hGr : Gr P) (hmv : isMv mv tb len) : CtV l yX3_forget cX3_forget 1 none 1 24 45 [vR mv] M P (pV (flM M (mv + 1) (-1) len) P) := by
  refine Ct_of (own := RX3) (L := [vR mv]) (by decide) rfl rfl (Nat.le_of_ble_eq_true rfl) (fun X Y hl hC hQ => ?_)
  obtain ⟨vs0, vs1, vst, vT, vp0, vp1, vp2, vb1, vbt, vlen, vb14⟩ := isMv_all hGr hmv
  refine G_al0 hC dX3_forget_0 ?_
  refine G_getR hC fl_X3_25 (by first | assumption | rfl) (by omega) (by first | assumption | exact hGr _ _ _ rfl) dX3_forget_1 ?_
  refine G_ldc2 (z := -1) hC kl_X3_29 (by decide) dX3_forget_4 ?_
  refine G_callSV hC (c_fillL vs1 (by omega)) ms_X3_31 (by decide) rfl (by decide) dX3_forget_7 rfl (Nat.le_of_ble_eq_true rfl) rfl (fun M7 P7 h7 => ?_)
  obtain ⟨rfl, rfl⟩ := h7
  exact G_vret hC hQ dX3_forget_10 ⟨rfl, rfl, rfl⟩
noncomputable def roM (M : Mem) (mv len : Nat) (T : TB) (k i : Nat) : Mem := if 6 * k + i < len then upM M (mv + 1) (6 * k + i) (rrC (fun j => mvN M T (M 13 k).toNat i j) 6) else M
theorem putL_same {M : Mem} {a b : Nat} {v : Int} (h : M a b = v) : upM M a b v = M := by rw [← h]; exact upM_same M a b
set_option maxHeartbeats 4000000 in
set_option maxRecDepth 100000 in
theorem c_X3_rowOf {l : Launch} {mv tb len k i : Nat} {T : TB} {M : Mem} {P : PMem} (hGr : Gr P) (hmv : isMv mv tb len) (hR : TabR M tb T) (hB : LyB M) (hk : k < 720) (hi : i < 6) (hc : 6 * k + i < len → M (mv + 1) (6 * k + i) = -1 ∨ M (mv + 1) (6 * k + i) = (rrC (fun j => mvN M T (M 13 k).toNat i j) 6 : Int)) : CtL l yX3_rowOf cX3_rowOf 11 (some .long) 3 78 45 [vR mv, vI k, vI i] M P (pI (rrC (fun j => mvN M T (M 13 k).toNat i j) 6) (roM M mv len T k i) P) := by
  refine Ct_of (own := RX3) (L := [vR mv, vI k, vI i, vX 1, vX 1, vX 1, vX 1, vX 1, vX 1, vX 1, vX 1]) (by decide) rfl rfl (Nat.le_of_ble_eq_true rfl) (fun X Y hl hC hQ => ?_)
  obtain ⟨vs0, vs1, vst, vT, vp0, vp1, vp2, vb1, vbt, vlen, vb14⟩ := isMv_all hGr hmv
  have hlk := hB.1 k hk
  have hqe : M 13 k = ((enc (dgf (M 13 k).toNat) : Nat) : Int) := by rw [enc_dgf (by omega)]; omega
  have hto : ∀ j, (fun j => mvN M T (M 13 k).toNat i j) j ≤ 1023 := fun j => mvN_le hB
  have hlt6 := rr_lt hto 6 (by omega)
  have h46 : (1024 : Nat) ^ 6 = 1152921504606846976 := by decide
  have hdl := dgf_lo (M 13 k).toNat
  have hlp : ∀ n c : Nat, c + n = 6 → ∀ (iv hr rv av : Int) (x9 x10 : AV), iv = 6 * (k : Int) + i → (hr = 1 ∧ 6 * k + i < len ∨ hr = 0 ∧ len ≤ 6 * k + i) → rv = (rrC (fun j => mvN M T (M 13 k).toNat i j) c : Int) → av = 5 - (c : Int) → isC2 x9 = false → G X Y 68 [vR mv, vI k, vI i, vI iv, vI hr, vI (M 13 k), vL rv, vX 1, vI av, x9, x10] [] M P := by
    intro n
    induction n with
    | zero =>
      intro c hc iv hr rv av x9 x10 e1 e2 e3 e4 hx
      subst e1; subst e3; subst e4
      have hc6 : c = 6 := by omega
      subst hc6
      refine G_il8 hC dX3_rowOf_68 ?_
      refine G_if_lt (tgt := 136) hC dX3_rowOf_70 (by decide) (by omega) (fun c70 => ?_) (fun c70 => ?_)
      · refine G_il4 hC dX3_rowOf_136 ?_
        refine G_if_eq (tgt := 149) hC dX3_rowOf_138 (by decide) (by omega) (fun c138 => ?_) (fun c138 => ?_)
        · refine G_ll6 hC dX3_rowOf_149 ?_
          exact G_lret hC hQ dX3_rowOf_151 ⟨_, rfl, rfl, by
  unfold roM
  first
    | (rw [if_neg (by omega)]; done)
    | (rw [if_pos (by omega), show (6 * (k : Int) + i).toNat = 6 * k + i by omega]; done), rfl⟩
        · refine G_al0 hC dX3_rowOf_141 ?_
          refine G_getR hC fl_X3_25 (by first | assumption | rfl) (by omega) (by first | assumption | exact hGr _ _ _ rfl) dX3_rowOf_142 ?_
          refine G_il3 hC dX3_rowOf_145 ?_
          refine G_ll6 hC dX3_rowOf_146 ?_
          skip
          refine G_lastore hC (by first | assumption | rfl) (by omega) (by omega) dX3_rowOf_148 ?_
          refine G_ll6 hC dX3_rowOf_149 ?_
          exact G_lret hC hQ dX3_rowOf_151 ⟨_, rfl, rfl, by
  unfold roM
  first
    | (rw [if_neg (by omega)]; done)
    | (rw [if_pos (by omega), show (6 * (k : Int) + i).toNat = 6 * k + i by omega]; done), rfl⟩
      · exact absurd c70 (by omega)
    | succ n ih =>
      intro c hc iv hr rv av x9 x10 e1 e2 e3 e4 hx
      subst e1; subst e3; subst e4
      obtain ⟨j, hj⟩ : ∃ j : Nat, 5 - (c : Int) = (j : Int) := ⟨5 - c, by omega⟩
      have hj5 : j = 5 - c := by omega
      have hj6 : j ≤ 6 := by omega
      rw [hj]
      by_cases hcan : can T (dgf (M 13 k).toNat) i j
      · have hci := canI_1 hcan
        have hnr := numO_r hB (enc (aft T (dgf (M 13 k).toNat) i j))
        refine G_il8 hC dX3_rowOf_68 ?_
        refine G_if_lt (tgt := 136) hC dX3_rowOf_70 (by decide) (by omega) (fun c70 => ?_) (fun c70 => ?_)
        · exact absurd c70 (by omega)
        · refine G_al0 hC dX3_rowOf_73 ?_
          refine G_getR hC fl_X3_9 (by first | assumption | rfl) (by omega) (by first | assumption | exact hGr _ _ _ rfl) dX3_rowOf_74 ?_
          rw [hqe]
          refine G_il5 hC dX3_rowOf_77 ?_
          refine G_il2 hC dX3_rowOf_79 ?_
          refine G_il8 hC dX3_rowOf_80 ?_
          refine G_callVI hC (c_X7_canBeAsked hGr vT hR hdl (by omega) hj6) mv_X3_43 (by first | assumption | rfl) (by omega) (by decide) rfl (by decide) dX3_rowOf_82 rfl (Nat.le_of_ble_eq_true rfl) rfl (fun z82 M82 P82 h82 => ?_)
          obtain ⟨rfl, rfl, rfl⟩ := h82
          refine G_is9 hC dX3_rowOf_85 rfl ?_
          refine G_il9 hC dX3_rowOf_87 ?_
          refine G_if_eq (tgt := 114) hC dX3_rowOf_89 (by decide) (by rw [hci]; omega) (fun c89 => ?_) (fun c89 => ?_)
          · exact absurd c89 (by rw [hci]; omega)
          · refine G_al0 hC dX3_rowOf_92 ?_
            refine G_getR hC fl_X3_15 (by first | assumption | rfl) (by omega) (by first | assumption | exact hGr _ _ _ rfl) dX3_rowOf_93 ?_
            refine G_al0 hC dX3_rowOf_96 ?_
            refine G_getR hC fl_X3_9 (by first | assumption | rfl) (by omega) (by first | assumption | exact hGr _ _ _ rfl) dX3_rowOf_97 ?_
            refine G_il5 hC dX3_rowOf_100 ?_
            refine G_il2 hC dX3_rowOf_102 ?_
            refine G_il8 hC dX3_rowOf_103 ?_
            refine G_callVI hC (c_X7_lieAfter hGr vT hR hdl hcan.2.1 hcan.2.2.1) mv_X3_49 (by first | assumption | rfl) (by omega) (by decide) rfl (by decide) dX3_rowOf_105 rfl (Nat.le_of_ble_eq_true rfl) rfl (fun z105 M105 P105 h105 => ?_)
            obtain ⟨rfl, rfl, rfl⟩ := h105
            refine G_callVI hC (c_X0_numberOf hGr hB (enc_lt (aft_lo hdl))) mv_X3_53 (by first | assumption | rfl) (by omega) (by decide) rfl (by decide) dX3_rowOf_108 rfl (Nat.le_of_ble_eq_true rfl) rfl (fun z108 M108 P108 h108 => ?_)
            obtain ⟨rfl, rfl, rfl⟩ := h108
            refine G_goto (tgt := 117) hC dX3_rowOf_111 (by decide) ?_
            rw [← hqe]
            refine G_is10 hC dX3_rowOf_117 rfl ?_
            refine G_ll6 hC dX3_rowOf_119 ?_
            refine G_bipush hC dX3_rowOf_121 (by decide) ?_
            refine G_lshl hC dX3_rowOf_123 ?_
            refine G_il10 hC dX3_rowOf_124 ?_
            refine G_i2l hC dX3_rowOf_126 (by omega) ?_
            refine G_lor hC dX3_rowOf_127 ?_
            refine G_ls6 hC dX3_rowOf_128 rfl ?_
            refine G_inc8 hC dX3_rowOf_130 rfl ?_
            refine G_goto (tgt := 68) hC dX3_rowOf_133 (by decide) ?_
            exact ih (c + 1) (by omega) _ _ _ _ _ _ rfl e2 (by rw [← rr_or hto (by omega)]; congr 1; show _ = ((mvN M T (M 13 k).toNat i (5 - c) : Nat) : Int); rw [← hj5, mvN_1 hcan]; omega) (by omega) rfl
      · have hci := canI_0 hcan
        refine G_il8 hC dX3_rowOf_68 ?_
        refine G_if_lt (tgt := 136) hC dX3_rowOf_70 (by decide) (by omega) (fun c70 => ?_) (fun c70 => ?_)
        · exact absurd c70 (by omega)
        · refine G_al0 hC dX3_rowOf_73 ?_
          refine G_getR hC fl_X3_9 (by first | assumption | rfl) (by omega) (by first | assumption | exact hGr _ _ _ rfl) dX3_rowOf_74 ?_
          rw [hqe]
          refine G_il5 hC dX3_rowOf_77 ?_
          refine G_il2 hC dX3_rowOf_79 ?_
          refine G_il8 hC dX3_rowOf_80 ?_
          refine G_callVI hC (c_X7_canBeAsked hGr vT hR hdl (by omega) hj6) mv_X3_43 (by first | assumption | rfl) (by omega) (by decide) rfl (by decide) dX3_rowOf_82 rfl (Nat.le_of_ble_eq_true rfl) rfl (fun z82 M82 P82 h82 => ?_)
          obtain ⟨rfl, rfl, rfl⟩ := h82
          refine G_is9 hC dX3_rowOf_85 rfl ?_
          refine G_il9 hC dX3_rowOf_87 ?_
          refine G_if_eq (tgt := 114) hC dX3_rowOf_89 (by decide) (by rw [hci]; omega) (fun c89 => ?_) (fun c89 => ?_)
          · rw [← hqe]
            refine G_sipush hC dX3_rowOf_114 (by decide) ?_
            refine G_is10 hC dX3_rowOf_117 rfl ?_
            refine G_ll6 hC dX3_rowOf_119 ?_
            refine G_bipush hC dX3_rowOf_121 (by decide) ?_
            refine G_lshl hC dX3_rowOf_123 ?_
            refine G_il10 hC dX3_rowOf_124 ?_
            refine G_i2l hC dX3_rowOf_126 (by omega) ?_
            refine G_lor hC dX3_rowOf_127 ?_
            refine G_ls6 hC dX3_rowOf_128 rfl ?_
            refine G_inc8 hC dX3_rowOf_130 rfl ?_
            refine G_goto (tgt := 68) hC dX3_rowOf_133 (by decide) ?_
            exact ih (c + 1) (by omega) _ _ _ _ _ _ rfl e2 (by rw [← rr_or hto (by omega)]; congr 1; show _ = ((mvN M T (M 13 k).toNat i (5 - c) : Nat) : Int); rw [← hj5, mvN_0 hcan]; rfl) (by omega) rfl
          · exact absurd hci c89
  refine G_il1 hC dX3_rowOf_0 ?_
  refine G_bipush hC dX3_rowOf_1 (by decide) ?_
  refine G_imul hC dX3_rowOf_3 ?_
  refine G_il2 hC dX3_rowOf_4 ?_
  refine G_iadd hC dX3_rowOf_5 ?_
  refine G_is3 hC dX3_rowOf_6 rfl ?_
  refine G_il3 hC dX3_rowOf_7 ?_
  refine G_if_lt (tgt := 24) hC dX3_rowOf_8 (by decide) (by omega) (fun c8 => ?_) (fun c8 => ?_)
  · refine G_iconst hC dX3_rowOf_24 ?_
    refine G_is4 hC dX3_rowOf_25 rfl ?_
    refine G_il4 hC dX3_rowOf_27 ?_
    refine G_if_eq (tgt := 52) hC dX3_rowOf_29 (by decide) (by omega) (fun c29 => ?_) (fun c29 => ?_)
    · refine G_al0 hC dX3_rowOf_52 ?_
      refine G_getR hC fl_X3_15 (by first | assumption | rfl) (by omega) (by first | assumption | exact hGr _ _ _ rfl) dX3_rowOf_53 ?_
      refine G_il1 hC dX3_rowOf_56 ?_
      refine G_callVI hC (c_X0_lieOf hGr hk) mv_X3_37 (by first | assumption | rfl) (by omega) (by decide) rfl (by decide) dX3_rowOf_57 rfl (Nat.le_of_ble_eq_true rfl) rfl (fun z57 M57 P57 h57 => ?_)
      obtain ⟨rfl, rfl, rfl⟩ := h57
      refine G_is5 hC dX3_rowOf_60 rfl ?_
      refine G_lconst (z := 0) hC dX3_rowOf_62 (by decide) ?_
      refine G_ls6 hC dX3_rowOf_63 rfl ?_
      refine G_iconst hC dX3_rowOf_65 ?_
      refine G_is8 hC dX3_rowOf_66 rfl ?_
      exact hlp 6 0 (by omega) _ _ _ _ _ _ (by omega) (by omega) rfl rfl rfl
    · refine G_al0 hC dX3_rowOf_32 ?_
      refine G_getR hC fl_X3_25 (by first | assumption | rfl) (by omega) (by first | assumption | exact hGr _ _ _ rfl) dX3_rowOf_33 ?_
      refine G_il3 hC dX3_rowOf_36 ?_
      refine G_laload hC (by first | assumption | rfl) (by omega) (by omega) dX3_rowOf_37 ?_
      refine G_ldc2 (z := -1) hC kl_X3_29 (by decide) dX3_rowOf_38 ?_
      refine G_lcmp hC dX3_rowOf_41 (by rcases hc (by omega) with h | h <;> (rw [show ((k : Int) * 6 + i).toNat = 6 * k + i by omega, h]; omega)) (by omega) ?_
      refine G_if_eq (tgt := 52) hC dX3_rowOf_42 (by decide) (by unfold zcmp; split <;> first | omega | (split <;> omega)) (fun c42 => ?_) (fun c42 => ?_)
      · refine G_al0 hC dX3_rowOf_52 ?_
        refine G_getR hC fl_X3_15 (by first | assumption | rfl) (by omega) (by first | assumption | exact hGr _ _ _ rfl) dX3_rowOf_53 ?_
        refine G_il1 hC dX3_rowOf_56 ?_
        refine G_callVI hC (c_X0_lieOf hGr hk) mv_X3_37 (by first | assumption | rfl) (by omega) (by decide) rfl (by decide) dX3_rowOf_57 rfl (Nat.le_of_ble_eq_true rfl) rfl (fun z57 M57 P57 h57 => ?_)
        obtain ⟨rfl, rfl, rfl⟩ := h57
        refine G_is5 hC dX3_rowOf_60 rfl ?_
        refine G_lconst (z := 0) hC dX3_rowOf_62 (by decide) ?_
        refine G_ls6 hC dX3_rowOf_63 rfl ?_
        refine G_iconst hC dX3_rowOf_65 ?_
        refine G_is8 hC dX3_rowOf_66 rfl ?_
        exact hlp 6 0 (by omega) _ _ _ _ _ _ (by omega) (by omega) rfl rfl rfl
      · refine G_al0 hC dX3_rowOf_45 ?_
        refine G_getR hC fl_X3_25 (by first | assumption | rfl) (by omega) (by first | assumption | exact hGr _ _ _ rfl) dX3_rowOf_46 ?_
        refine G_il3 hC dX3_rowOf_49 ?_
        refine G_laload hC (by first | assumption | rfl) (by omega) (by omega) dX3_rowOf_50 ?_
        exact G_lret hC hQ dX3_rowOf_51 ⟨_, rfl, by
  rw [show ((k : Int) * 6 + i).toNat = 6 * k + i by omega] at c42 ⊢
  rcases hc (by omega) with h | h
  · exact absurd (by rw [h]; rfl) c42
  · rw [h], by
  unfold roM
  rw [if_pos (by omega)]
  rw [show ((k : Int) * 6 + i).toNat = 6 * k + i by omega] at c42
  rcases hc (by omega) with h | h
  · exact absurd (by rw [h]; rfl) c42
  · exact putL_same h, rfl⟩
  · refine G_il3 hC dX3_rowOf_11 ?_
    refine G_al0 hC dX3_rowOf_12 ?_
    refine G_getR hC fl_X3_25 (by first | assumption | rfl) (by omega) (by first | assumption | exact hGr _ _ _ rfl) dX3_rowOf_13 ?_
    refine G_alen hC (by first | assumption | rfl) (by decide) (by omega) dX3_rowOf_16 ?_
    refine G_icmp_ge (tgt := 24) hC dX3_rowOf_17 (by decide) (by omega) (by omega) (fun c17 => ?_) (fun c17 => ?_)
    · refine G_iconst hC dX3_rowOf_24 ?_
      refine G_is4 hC dX3_rowOf_25 rfl ?_
      refine G_il4 hC dX3_rowOf_27 ?_
      refine G_if_eq (tgt := 52) hC dX3_rowOf_29 (by decide) (by omega) (fun c29 => ?_) (fun c29 => ?_)
      · refine G_al0 hC dX3_rowOf_52 ?_
        refine G_getR hC fl_X3_15 (by first | assumption | rfl) (by omega) (by first | assumption | exact hGr _ _ _ rfl) dX3_rowOf_53 ?_
        refine G_il1 hC dX3_rowOf_56 ?_
        refine G_callVI hC (c_X0_lieOf hGr hk) mv_X3_37 (by first | assumption | rfl) (by omega) (by decide) rfl (by decide) dX3_rowOf_57 rfl (Nat.le_of_ble_eq_true rfl) rfl (fun z57 M57 P57 h57 => ?_)
        obtain ⟨rfl, rfl, rfl⟩ := h57
        refine G_is5 hC dX3_rowOf_60 rfl ?_
        refine G_lconst (z := 0) hC dX3_rowOf_62 (by decide) ?_
        refine G_ls6 hC dX3_rowOf_63 rfl ?_
        refine G_iconst hC dX3_rowOf_65 ?_
        refine G_is8 hC dX3_rowOf_66 rfl ?_
        exact hlp 6 0 (by omega) _ _ _ _ _ _ (by omega) (by omega) rfl rfl rfl
      · refine G_al0 hC dX3_rowOf_32 ?_
        refine G_getR hC fl_X3_25 (by first | assumption | rfl) (by omega) (by first | assumption | exact hGr _ _ _ rfl) dX3_rowOf_33 ?_
        refine G_il3 hC dX3_rowOf_36 ?_
        refine G_laload hC (by first | assumption | rfl) (by omega) (by omega) dX3_rowOf_37 ?_
        refine G_ldc2 (z := -1) hC kl_X3_29 (by decide) dX3_rowOf_38 ?_
        refine G_lcmp hC dX3_rowOf_41 (by rcases hc (by omega) with h | h <;> (rw [show ((k : Int) * 6 + i).toNat = 6 * k + i by omega, h]; omega)) (by omega) ?_
        refine G_if_eq (tgt := 52) hC dX3_rowOf_42 (by decide) (by unfold zcmp; split <;> first | omega | (split <;> omega)) (fun c42 => ?_) (fun c42 => ?_)
        · refine G_al0 hC dX3_rowOf_52 ?_
          refine G_getR hC fl_X3_15 (by first | assumption | rfl) (by omega) (by first | assumption | exact hGr _ _ _ rfl) dX3_rowOf_53 ?_
          refine G_il1 hC dX3_rowOf_56 ?_
          refine G_callVI hC (c_X0_lieOf hGr hk) mv_X3_37 (by first | assumption | rfl) (by omega) (by decide) rfl (by decide) dX3_rowOf_57 rfl (Nat.le_of_ble_eq_true rfl) rfl (fun z57 M57 P57 h57 => ?_)
          obtain ⟨rfl, rfl, rfl⟩ := h57
          refine G_is5 hC dX3_rowOf_60 rfl ?_
          refine G_lconst (z := 0) hC dX3_rowOf_62 (by decide) ?_
          refine G_ls6 hC dX3_rowOf_63 rfl ?_
          refine G_iconst hC dX3_rowOf_65 ?_
          refine G_is8 hC dX3_rowOf_66 rfl ?_
          exact hlp 6 0 (by omega) _ _ _ _ _ _ (by omega) (by omega) rfl rfl rfl
        · refine G_al0 hC dX3_rowOf_45 ?_
          refine G_getR hC fl_X3_25 (by first | assumption | rfl) (by omega) (by first | assumption | exact hGr _ _ _ rfl) dX3_rowOf_46 ?_
          refine G_il3 hC dX3_rowOf_49 ?_
          refine G_laload hC (by first | assumption | rfl) (by omega) (by omega) dX3_rowOf_50 ?_
          exact G_lret hC hQ dX3_rowOf_51 ⟨_, rfl, by
  rw [show ((k : Int) * 6 + i).toNat = 6 * k + i by omega] at c42 ⊢
  rcases hc (by omega) with h | h
  · exact absurd (by rw [h]; rfl) c42
  · rw [h], by
  unfold roM
  rw [if_pos (by omega)]
  rw [show ((k : Int) * 6 + i).toNat = 6 * k + i by omega] at c42
  rcases hc (by omega) with h | h
  · exact absurd (by rw [h]; rfl) c42
  · exact putL_same h, rfl⟩
    · refine G_iconst hC dX3_rowOf_20 ?_
      refine G_goto (tgt := 25) hC dX3_rowOf_21 (by decide) ?_
      refine G_is4 hC dX3_rowOf_25 rfl ?_
      refine G_il4 hC dX3_rowOf_27 ?_
      refine G_if_eq (tgt := 52) hC dX3_rowOf_29 (by decide) (by omega) (fun c29 => ?_) (fun c29 => ?_)
      · refine G_al0 hC dX3_rowOf_52 ?_
        refine G_getR hC fl_X3_15 (by first | assumption | rfl) (by omega) (by first | assumption | exact hGr _ _ _ rfl) dX3_rowOf_53 ?_
        refine G_il1 hC dX3_rowOf_56 ?_
        refine G_callVI hC (c_X0_lieOf hGr hk) mv_X3_37 (by first | assumption | rfl) (by omega) (by decide) rfl (by decide) dX3_rowOf_57 rfl (Nat.le_of_ble_eq_true rfl) rfl (fun z57 M57 P57 h57 => ?_)
        obtain ⟨rfl, rfl, rfl⟩ := h57
        refine G_is5 hC dX3_rowOf_60 rfl ?_
        refine G_lconst (z := 0) hC dX3_rowOf_62 (by decide) ?_
        refine G_ls6 hC dX3_rowOf_63 rfl ?_
        refine G_iconst hC dX3_rowOf_65 ?_
        refine G_is8 hC dX3_rowOf_66 rfl ?_
        exact hlp 6 0 (by omega) _ _ _ _ _ _ (by omega) (by omega) rfl rfl rfl
      · refine G_al0 hC dX3_rowOf_32 ?_
        refine G_getR hC fl_X3_25 (by first | assumption | rfl) (by omega) (by first | assumption | exact hGr _ _ _ rfl) dX3_rowOf_33 ?_
        refine G_il3 hC dX3_rowOf_36 ?_
        refine G_laload hC (by first | assumption | rfl) (by omega) (by omega) dX3_rowOf_37 ?_
        refine G_ldc2 (z := -1) hC kl_X3_29 (by decide) dX3_rowOf_38 ?_
        refine G_lcmp hC dX3_rowOf_41 (by rcases hc (by omega) with h | h <;> (rw [show ((k : Int) * 6 + i).toNat = 6 * k + i by omega, h]; omega)) (by omega) ?_
        refine G_if_eq (tgt := 52) hC dX3_rowOf_42 (by decide) (by unfold zcmp; split <;> first | omega | (split <;> omega)) (fun c42 => ?_) (fun c42 => ?_)
        · refine G_al0 hC dX3_rowOf_52 ?_
          refine G_getR hC fl_X3_15 (by first | assumption | rfl) (by omega) (by first | assumption | exact hGr _ _ _ rfl) dX3_rowOf_53 ?_
          refine G_il1 hC dX3_rowOf_56 ?_
          refine G_callVI hC (c_X0_lieOf hGr hk) mv_X3_37 (by first | assumption | rfl) (by omega) (by decide) rfl (by decide) dX3_rowOf_57 rfl (Nat.le_of_ble_eq_true rfl) rfl (fun z57 M57 P57 h57 => ?_)
          obtain ⟨rfl, rfl, rfl⟩ := h57
          refine G_is5 hC dX3_rowOf_60 rfl ?_
          refine G_lconst (z := 0) hC dX3_rowOf_62 (by decide) ?_
          refine G_ls6 hC dX3_rowOf_63 rfl ?_
          refine G_iconst hC dX3_rowOf_65 ?_
          refine G_is8 hC dX3_rowOf_66 rfl ?_
          exact hlp 6 0 (by omega) _ _ _ _ _ _ (by omega) (by omega) rfl rfl rfl
        · refine G_al0 hC dX3_rowOf_45 ?_
          refine G_getR hC fl_X3_25 (by first | assumption | rfl) (by omega) (by first | assumption | exact hGr _ _ _ rfl) dX3_rowOf_46 ?_
          refine G_il3 hC dX3_rowOf_49 ?_
          refine G_laload hC (by first | assumption | rfl) (by omega) (by omega) dX3_rowOf_50 ?_
          exact G_lret hC hQ dX3_rowOf_51 ⟨_, rfl, by
  rw [show ((k : Int) * 6 + i).toNat = 6 * k + i by omega] at c42 ⊢
  rcases hc (by omega) with h | h
  · exact absurd (by rw [h]; rfl) c42
  · rw [h], by
  unfold roM
  rw [if_pos (by omega)]
  rw [show ((k : Int) * 6 + i).toNat = 6 * k + i by omega] at c42
  rcases hc (by omega) with h | h
  · exact absurd (by rw [h]; rfl) c42
  · exact putL_same h, rfl⟩
