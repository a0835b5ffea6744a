/-! layings -/
def dgf (q i : Nat) : Nat := q / 2 ^ (3 * i) % 8
theorem dgf_lo (q : Nat) : lo8 (dgf q) := fun i => Nat.mod_lt _ (by omega)
theorem enc_dgf {q : Nat} (h : q < 262144) : enc (dgf q) = q := by
  unfold enc dgf
  show q / 2 ^ 0 % 8 + 8 * (q / 2 ^ 3 % 8) + 64 * (q / 2 ^ 6 % 8) + 512 * (q / 2 ^ 9 % 8) + 4096 * (q / 2 ^ 12 % 8) + 32768 * (q / 2 ^ 15 % 8) = q
  omega
theorem dgf_enc {f : Nat → Nat} (h : lo8 f) {i : Nat} (hi : i < 6) : dgf (enc f) i = f i := enc_dig h hi
theorem bUsh_r (a : Int) : 0 ≤ bUsh a 21 ∧ bUsh a 21 < 2048 := by
  unfold bUsh
  have h := pk_ushr (Int32.ofInt a) (Int32.ofInt 21) 21 (by decide +kernel)
  generalize ((Int32.ofInt a).toUInt32 >>> ((Int32.ofInt 21).toUInt32 &&& Int32.toUInt32 31)).toInt32 = z at h
  have h1 : z.toBitVec.toNat < 2048 := by
    rw [h]
    have := (Int32.ofInt a).toBitVec.isLt
    omega
  have h2 : z.toInt = z.toBitVec.toInt := rfl
  rw [h2, BitVec.toInt_eq_toNat_of_lt (by omega)]
  omega
def hsh (q : Nat) : Nat := (bUsh ((q : Int) * (-1640531535)) 21).toNat
theorem hsh_lt (q : Nat) : hsh q < 2048 := by have := bUsh_r ((q : Int) * (-1640531535)); unfold hsh; omega
noncomputable def slF (M : Mem) (q : Nat) : Nat → Nat → Nat
  | 0, s => s
  | k + 1, s => if M 14 s = 1023 ∨ M 13 (M 14 s).toNat = (q : Int) then s else slF M q k ((s + 1) % 2048)
theorem slF_lt {M : Mem} {q : Nat} : ∀ k s, s < 2048 → slF M q k s < 2048
  | 0, s, h => h
  | k + 1, s, h => by
    unfold slF; split
    · exact h
    · exact slF_lt k _ (Nat.mod_lt _ (by omega))
noncomputable def sltO (M : Mem) (q : Nat) : Nat := slF M q 2048 (hsh q)
theorem sltO_lt {M : Mem} {q : Nat} : sltO M q < 2048 := slF_lt _ _ (hsh_lt q)
noncomputable def numO (M : Mem) (q : Nat) : Int := M 14 (sltO M q)
def LyB (M : Mem) : Prop := (∀ k, k < 720 → 0 ≤ M 13 k ∧ M 13 k < 262144) ∧ (∀ s, s < 2048 → M 14 s = 1023 ∨ (0 ≤ M 14 s ∧ M 14 s < 720)) ∧ 0 ≤ M 12 0 ∧ M 12 0 ≤ 720
theorem numO_r {M : Mem} (h : LyB M) (q : Nat) : numO M q = 1023 ∨ (0 ≤ numO M q ∧ numO M q < 720) := h.2.1 _ sltO_lt
theorem mask11 {s : Nat} (h : s < 2048) : bAnd ((s : Int) + 1) 2047 = (((s + 1) % 2048 : Nat) : Int) := by
  rw [show (s : Int) + 1 = ((s + 1 : Nat) : Int) by omega, show (2047 : Int) = ((2047 : Nat) : Int) by rfl, bAnd_n (by omega) (by omega), show (2047 : Nat) = 2 ^ 11 - 1 by rfl, Nat.and_two_pow_sub_one_eq_mod]
set_option maxHeartbeats 4000000 in
set_option maxRecDepth 100000 in
theorem c_X0_slotOf {l : Launch} {q : Nat} {M : Mem} {P : PMem} (hGr : Gr P) (hB : LyB M) (hq : q < 262144) : CtI l yX0_slotOf cX0_slotOf 5 (some .int) 1 21 45 [vR 12, vI q] M P (pI (sltO M q) M P) := by
  refine Ct_of (own := RX0) (L := [vR 12, vI q, vX 1, vX 1, vX 1]) (by decide) rfl rfl (Nat.le_of_ble_eq_true rfl) (fun X Y hl hC hQ => ?_)
  have hlp : ∀ n k : Nat, k + n = 2048 → ∀ (s : Nat) (kv sv : Int) (x4 : AV), kv = (k : Int) → sv = (s : Int) → s < 2048 → sltO M q = slF M q n s → G X Y 10 [vR 12, vI q, vI sv, vI kv, x4] [] M P := by
    intro n
    induction n with
    | zero =>
      intro k hk s kv sv x4 e1 e2 hs e
      subst e1; subst e2
      refine G_il3 hC dX0_slotOf_10 ?_
      refine G_sipush hC dX0_slotOf_11 (by decide) ?_
      refine G_icmp_ge (tgt := 64) hC dX0_slotOf_14 (by decide) (by omega) (by omega) (fun c14 => ?_) (fun c14 => ?_)
      · refine G_il2 hC dX0_slotOf_64 ?_
        exact G_iret hC hQ dX0_slotOf_65 ⟨_, rfl, by rw [e]; rfl, rfl, rfl⟩
      · exact absurd c14 (by omega)
    | succ n ih =>
      intro k hk s kv sv x4 e1 e2 hs e
      subst e1; subst e2
      have hms := hB.2.1 s hs
      have hml : M 14 s ≠ 1023 → 0 ≤ M 13 (M 14 s).toNat ∧ M 13 (M 14 s).toNat < 262144 := fun h => hB.1 _ (by omega)
      refine G_il3 hC dX0_slotOf_10 ?_
      refine G_sipush hC dX0_slotOf_11 (by decide) ?_
      refine G_icmp_ge (tgt := 64) hC dX0_slotOf_14 (by decide) (by omega) (by omega) (fun c14 => ?_) (fun c14 => ?_)
      · exact absurd c14 (by omega)
      · refine G_al0 hC dX0_slotOf_17 ?_
        refine G_getR hC fl_X0_15 (by first | assumption | rfl) (by omega) (by first | assumption | exact hGr _ _ _ rfl) dX0_slotOf_18 ?_
        refine G_il2 hC dX0_slotOf_21 ?_
        refine G_callSI hC (c_atN (z := 2048) rfl (by omega) hs) ms_X0_32 (by decide) rfl (by decide) dX0_slotOf_22 rfl (Nat.le_of_ble_eq_true rfl) rfl (fun z22 M22 P22 h22 => ?_)
        obtain ⟨rfl, rfl, rfl⟩ := h22
        refine G_is4 hC dX0_slotOf_25 rfl ?_
        refine G_il4 hC dX0_slotOf_27 ?_
        refine G_sipush hC dX0_slotOf_29 (by decide) ?_
        refine G_icmp_eq (tgt := 48) hC dX0_slotOf_32 (by decide) (by omega) (by omega) (fun c32 => ?_) (fun c32 => ?_)
        · refine G_il2 hC dX0_slotOf_48 ?_
          exact G_iret hC hQ dX0_slotOf_49 ⟨_, rfl, by rw [e, slF, if_pos (by first | exact Or.inl c32 | exact Or.inr c45)], rfl, rfl⟩
        · refine G_al0 hC dX0_slotOf_35 ?_
          refine G_getR hC fl_X0_9 (by first | assumption | rfl) (by omega) (by first | assumption | exact hGr _ _ _ rfl) dX0_slotOf_36 ?_
          refine G_il4 hC dX0_slotOf_39 ?_
          refine G_callSI hC (c_X9_at (z := 720) rfl (by omega) (by omega)) ms_X0_32 (by decide) rfl (by decide) dX0_slotOf_41 rfl (Nat.le_of_ble_eq_true rfl) rfl (fun z41 M41 P41 h41 => ?_)
          obtain ⟨rfl, rfl, rfl⟩ := h41
          rw [show atV M 13 720 (M 14 s) = M 13 (M 14 s).toNat by unfold atV; rw [if_pos (by omega)]]
          refine G_il1 hC dX0_slotOf_44 ?_
          refine G_icmp_ne (tgt := 50) hC dX0_slotOf_45 (by decide) (by have := hml c32; omega) (by omega) (fun c45 => ?_) (fun c45 => ?_)
          · refine G_il2 hC dX0_slotOf_50 ?_
            refine G_iconst hC dX0_slotOf_51 ?_
            refine G_iadd hC dX0_slotOf_52 ?_
            refine G_sipush hC dX0_slotOf_53 (by decide) ?_
            refine G_iand hC dX0_slotOf_56 ?_
            refine G_is2 hC dX0_slotOf_57 rfl ?_
            refine G_inc3 hC dX0_slotOf_58 rfl ?_
            refine G_goto (tgt := 10) hC dX0_slotOf_61 (by decide) ?_
            exact ih (k + 1) (by omega) ((s + 1) % 2048) _ _ _ (by omega) (mask11 hs) (Nat.mod_lt _ (by omega)) (by rw [e, slF, if_neg (fun h => h.elim c32 c45)])
          · refine G_il2 hC dX0_slotOf_48 ?_
            exact G_iret hC hQ dX0_slotOf_49 ⟨_, rfl, by rw [e, slF, if_pos (by first | exact Or.inl c32 | exact Or.inr c45)], rfl, rfl⟩
  refine G_il1 hC dX0_slotOf_0 ?_
  refine G_ldc (z := -1640531535) hC kc_X0_48 (by decide) dX0_slotOf_1 ?_
  refine G_imul hC dX0_slotOf_3 ?_
  refine G_bipush hC dX0_slotOf_4 (by decide) ?_
  refine G_iushr hC dX0_slotOf_6 ?_
  refine G_is2 hC dX0_slotOf_7 rfl ?_
  refine G_iconst hC dX0_slotOf_8 ?_
  refine G_is3 hC dX0_slotOf_9 rfl ?_
  exact hlp 2048 0 (by omega) (hsh q) _ _ _ rfl (by unfold hsh; have := bUsh_r ((q : Int) * (-1640531535)); omega) (hsh_lt q) rfl
set_option maxHeartbeats 4000000 in
set_option maxRecDepth 100000 in
theorem c_X0_numberOf {l : Launch} {q : Nat} {M : Mem} {P : PMem} (hGr : Gr P) (hB : LyB M) (hq : q < 262144) : CtI l yX0_numberOf cX0_numberOf 2 (some .int) 2 45 45 [vR 12, vI q] M P (pI (numO M q) M P) := by
  refine Ct_of (own := RX0) (L := [vR 12, vI q]) (by decide) rfl rfl (Nat.le_of_ble_eq_true rfl) (fun X Y hl hC hQ => ?_)
  refine G_al0 hC dX0_numberOf_0 ?_
  refine G_getR hC fl_X0_15 (by first | assumption | rfl) (by omega) (by first | assumption | exact hGr _ _ _ rfl) dX0_numberOf_1 ?_
  refine G_al0 hC dX0_numberOf_4 ?_
  refine G_il1 hC dX0_numberOf_5 ?_
  refine G_callVI hC (c_X0_slotOf hGr hB hq) mv_X0_40 (by first | assumption | rfl) (by omega) (by decide) rfl (by decide) dX0_numberOf_6 rfl (Nat.le_of_ble_eq_true rfl) rfl (fun z6 M6 P6 h6 => ?_)
  obtain ⟨rfl, rfl, rfl⟩ := h6
  refine G_callSI hC (c_atN (z := 2048) rfl (by omega) sltO_lt) ms_X0_32 (by decide) rfl (by decide) dX0_numberOf_9 rfl (Nat.le_of_ble_eq_true rfl) rfl (fun z9 M9 P9 h9 => ?_)
  obtain ⟨rfl, rfl, rfl⟩ := h9
  exact G_iret hC hQ dX0_numberOf_12 ⟨_, rfl, rfl, rfl, rfl⟩
set_option maxHeartbeats 4000000 in
set_option maxRecDepth 100000 in
theorem c_X0_lieOf {l : Launch} {k : Nat} {M : Mem} {P : PMem} (hGr : Gr P) (hk : k < 720) : CtI l yX0_lieOf cX0_lieOf 2 (some .int) 1 21 45 [vR 12, vI k] M P (pI (M 13 k) M P) := by
  refine Ct_of (own := RX0) (L := [vR 12, vI k]) (by decide) rfl rfl (Nat.le_of_ble_eq_true rfl) (fun X Y hl hC hQ => ?_)
  refine G_al0 hC dX0_lieOf_0 ?_
  refine G_getR hC fl_X0_9 (by first | assumption | rfl) (by omega) (by first | assumption | exact hGr _ _ _ rfl) dX0_lieOf_1 ?_
  refine G_il1 hC dX0_lieOf_4 ?_
  refine G_callSI hC (c_atN (z := 720) rfl (by omega) hk) ms_X0_32 (by decide) rfl (by decide) dX0_lieOf_5 rfl (Nat.le_of_ble_eq_true rfl) rfl (fun z5 M5 P5 h5 => ?_)
  obtain ⟨rfl, rfl, rfl⟩ := h5
  exact G_iret hC hQ dX0_lieOf_8 ⟨_, rfl, rfl, rfl, rfl⟩
noncomputable def addM (M : Mem) (q : Nat) : Mem := if numO M q = 1023 ∧ M 12 0 < 720 then upM (upM (upM M 14 (sltO M q) (M 12 0)) 13 (M 12 0).toNat q) 12 0 (M 12 0 + 1) else M
set_option maxHeartbeats 4000000 in
set_option maxRecDepth 100000 in
theorem c_X0_add {l : Launch} {q : Nat} {M : Mem} {P : PMem} (hGr : Gr P) (hB : LyB M) (hq : q < 262144) : CtV l yX0_add cX0_add 3 none 2 45 45 [vR 12, vI q] M P (pV (addM M q) P) := by
  refine Ct_of (own := RX0) (L := [vR 12, vI q, vX 1]) (by decide) rfl rfl (Nat.le_of_ble_eq_true rfl) (fun X Y hl hC hQ => ?_)
  have hnr := numO_r hB q
  have hsl := sltO_lt (M := M) (q := q)
  obtain ⟨nn, hnn⟩ : ∃ nn : Nat, M 12 0 = (nn : Int) := ⟨(M 12 0).toNat, by have := hB.2.2; omega⟩
  have hn7 := hB.2.2.2
  refine G_al0 hC dX0_add_0 ?_
  refine G_il1 hC dX0_add_1 ?_
  refine G_callVI hC (c_X0_slotOf hGr hB hq) mv_X0_40 (by first | assumption | rfl) (by omega) (by decide) rfl (by decide) dX0_add_2 rfl (Nat.le_of_ble_eq_true rfl) rfl (fun z2 M2 P2 h2 => ?_)
  obtain ⟨rfl, rfl, rfl⟩ := h2
  refine G_is2 hC dX0_add_5 rfl ?_
  refine G_al0 hC dX0_add_6 ?_
  refine G_getR hC fl_X0_15 (by first | assumption | rfl) (by omega) (by first | assumption | exact hGr _ _ _ rfl) dX0_add_7 ?_
  refine G_il2 hC dX0_add_10 ?_
  refine G_callSI hC (c_atN (z := 2048) rfl (by omega) hsl) ms_X0_32 (by decide) rfl (by decide) dX0_add_11 rfl (Nat.le_of_ble_eq_true rfl) rfl (fun z11 M11 P11 h11 => ?_)
  obtain ⟨rfl, rfl, rfl⟩ := h11
  refine G_sipush hC dX0_add_14 (by decide) ?_
  refine G_icmp_ne (tgt := 64) hC dX0_add_17 (by decide) (by show -2147483648 ≤ numO M q ∧ numO M q ≤ 2147483647; omega) (by omega) (fun c17 => ?_) (fun c17 => ?_)
  · exact G_vret hC hQ dX0_add_64 ⟨rfl, by
  unfold addM
  first
    | (rw [if_pos ⟨c17, c27⟩, hnn, show ((nn : Nat) : Int).toNat = nn by omega, upM_ne (show (12 : Nat) ≠ 13 by decide), upM_ne (show (12 : Nat) ≠ 14 by decide), hnn]; done)
    | (rw [if_neg (fun h => c17 h.1)]; done)
    | (rw [if_neg (fun h => by have := h.2; omega)]; done), rfl⟩
  · refine G_al0 hC dX0_add_20 ?_
    refine G_getI hC fl_X0_18 (by first | assumption | rfl) (by omega) dX0_add_21 ?_
    refine G_sipush hC dX0_add_24 (by decide) ?_
    refine G_icmp_ge (tgt := 64) hC dX0_add_27 (by decide) (by omega) (by omega) (fun c27 => ?_) (fun c27 => ?_)
    · exact G_vret hC hQ dX0_add_64 ⟨rfl, by
  unfold addM
  first
    | (rw [if_pos ⟨c17, c27⟩, hnn, show ((nn : Nat) : Int).toNat = nn by omega, upM_ne (show (12 : Nat) ≠ 13 by decide), upM_ne (show (12 : Nat) ≠ 14 by decide), hnn]; done)
    | (rw [if_neg (fun h => c17 h.1)]; done)
    | (rw [if_neg (fun h => by have := h.2; omega)]; done), rfl⟩
    · refine G_al0 hC dX0_add_30 ?_
      refine G_getR hC fl_X0_15 (by first | assumption | rfl) (by omega) (by first | assumption | exact hGr _ _ _ rfl) dX0_add_31 ?_
      refine G_il2 hC dX0_add_34 ?_
      refine G_al0 hC dX0_add_35 ?_
      refine G_getI hC fl_X0_18 (by first | assumption | rfl) (by omega) dX0_add_36 ?_
      refine G_callSV hC (c_putN (z := 2048) rfl (by omega) hsl) ms_X0_44 (by decide) rfl (by decide) dX0_add_39 rfl (Nat.le_of_ble_eq_true rfl) rfl (fun M39 P39 h39 => ?_)
      obtain ⟨rfl, rfl⟩ := h39
      refine G_al0 hC dX0_add_42 ?_
      refine G_getR hC fl_X0_9 (by first | assumption | rfl) (by omega) (by first | assumption | exact hGr _ _ _ rfl) dX0_add_43 ?_
      refine G_al0 hC dX0_add_46 ?_
      refine G_getI hC fl_X0_18 (by first | assumption | rfl) (by omega) dX0_add_47 ?_
      rw [upM_ne (show (12 : Nat) ≠ 14 by decide), hnn]
      refine G_il1 hC dX0_add_50 ?_
      refine G_callSV hC (c_putN (z := 720) rfl (by omega) (by omega)) ms_X0_44 (by decide) rfl (by decide) dX0_add_51 rfl (Nat.le_of_ble_eq_true rfl) rfl (fun M51 P51 h51 => ?_)
      obtain ⟨rfl, rfl⟩ := h51
      refine G_al0 hC dX0_add_54 ?_
      refine G_dup hC dX0_add_55 rfl ?_
      refine G_getI hC fl_X0_18 (by first | assumption | rfl) (by omega) dX0_add_56 ?_
      refine G_iconst hC dX0_add_59 ?_
      refine G_iadd hC dX0_add_60 ?_
      refine G_putI hC fl_X0_18 (by first | assumption | rfl) (by omega) dX0_add_61 ?_
      exact G_vret hC hQ dX0_add_64 ⟨rfl, by
  unfold addM
  first
    | (rw [if_pos ⟨c17, c27⟩, hnn, show ((nn : Nat) : Int).toNat = nn by omega, upM_ne (show (12 : Nat) ≠ 13 by decide), upM_ne (show (12 : Nat) ≠ 14 by decide), hnn]; done)
    | (rw [if_neg (fun h => c17 h.1)]; done)
    | (rw [if_neg (fun h => by have := h.2; omega)]; done), rfl⟩
theorem addM_B {M : Mem} {q : Nat} (hB : LyB M) (hq : q < 262144) : LyB (addM M q) := by
  unfold addM
  split
  · rename_i h
    obtain ⟨b1, b2, b3, b4⟩ := hB
    refine ⟨fun k hk => ?_, fun s hs => ?_, ?_, ?_⟩
    · rw [upM_ne (show (13 : Nat) ≠ 12 by decide)]
      simp only [upM]
      split
      · omega
      · rw [if_neg (by omega)]; exact b1 k hk
    · rw [upM_ne (show (14 : Nat) ≠ 12 by decide), upM_ne (show (14 : Nat) ≠ 13 by decide)]
      simp only [upM]
      split
      · omega
      · exact b2 s hs
    · rw [upM_self]; omega
    · rw [upM_self]; omega
  · exact hB
noncomputable def gJ (k i : Nat) : Nat → Nat → Mem → Mem
  | 0, _, M => M
  | c + 1, j, M => gJ k i c (j + 1) (addM M (enc (sw (dgf (M 13 k).toNat) i j)))
noncomputable def gI (n k : Nat) : Nat → Nat → Mem → Mem
  | 0, _, M => M
  | c + 1, i, M => gI n k c (i + 1) (gJ k i (n - (i + 1)) (i + 1) M)
noncomputable def gK (n : Nat) : Nat → Nat → Mem → Mem
  | 0, _, M => M
  | c + 1, k, M => if (k : Int) < M 12 0 then gK n c (k + 1) (gI n k n 0 M) else M
noncomputable def gaM (M : Mem) (q n : Nat) : Mem := gK n 720 0 (addM (flM (upM M 12 0 0) 14 1023 2048) q)
theorem gJ_B {k i : Nat} : ∀ c j (M : Mem), LyB M → LyB (gJ k i c j M)
  | 0, _, _, h => h
  | c + 1, j, M, h => gJ_B c (j + 1) _ (addM_B h (enc_lt (sw_lo (dgf_lo _))))
theorem gI_B {n k : Nat} : ∀ c i (M : Mem), LyB M → LyB (gI n k c i M)
  | 0, _, _, h => h
  | c + 1, i, M, h => gI_B c (i + 1) _ (gJ_B _ _ _ h)
theorem ga0_B {M : Mem} {q : Nat} (hB : ∀ k, k < 720 → 0 ≤ M 13 k ∧ M 13 k < 262144) (hq : q < 262144) : LyB (flM (upM M 12 0 0) 14 1023 2048) := by
  refine ⟨fun k hk => ?_, fun s hs => ?_, ?_, ?_⟩
  · unfold flM; rw [if_neg (by omega), upM_ne (show (13 : Nat) ≠ 12 by decide)]; exact hB k hk
  · unfold flM; rw [if_pos (by omega)]; exact Or.inl rfl
  · unfold flM; rw [if_neg (by omega), upM_self]; omega
  · unfold flM; rw [if_neg (by omega), upM_self]; omega
set_option maxHeartbeats 4000000 in
set_option maxRecDepth 100000 in
theorem c_X0_gather {l : Launch} {q n : Nat} {M : Mem} {P : PMem} (hGr : Gr P) (hB : ∀ k, k < 720 → 0 ≤ M 13 k ∧ M 13 k < 262144) (hq : q < 262144) (hn : n ≤ 6) : CtV l yX0_gather cX0_gather 6 none 3 67 45 [vR 12, vI q, vI n] M P (pV (gaM M q n) P) := by
  refine Ct_of (own := RX0) (L := [vR 12, vI q, vI n, vX 1, vX 1, vX 1]) (by decide) rfl rfl (Nat.le_of_ble_eq_true rfl) (fun X Y hl hC hQ => ?_)
  have hlJ : ∀ (k i : Nat) (M2 : Mem), k < 720 → i < n → (∀ (iv kv : Int) (M3 : Mem) (x5 : AV), LyB M3 → iv = (i : Int) + 1 → kv = (k : Int) → M3 = gJ k i (n - (i + 1)) (i + 1) M2 → G X Y 40 [vR 12, vI q, vI n, vI kv, vI iv, x5] [] M3 P) → ∀ (c j : Nat) (kv iv jv : Int) (M1 : Mem), j + c = n → i < j → LyB M1 → kv = (k : Int) → iv = (i : Int) → jv = (j : Int) → gJ k i c j M1 = gJ k i (n - (i + 1)) (i + 1) M2 → G X Y 52 [vR 12, vI q, vI n, vI kv, vI iv, vI jv] [] M1 P := by
    intro k i M2 hk hi hnext c
    induction c with
    | zero =>
      intro j kv iv jv M1 hj hij hB1 e1 e2 e3 e
      subst e1; subst e2; subst e3
      refine G_il5 hC dX0_gather_52 ?_
      refine G_il2 hC dX0_gather_54 ?_
      refine G_icmp_ge (tgt := 83) hC dX0_gather_55 (by decide) (by omega) (by omega) (fun c55 => ?_) (fun c55 => ?_)
      · refine G_inc4 hC dX0_gather_83 rfl ?_
        refine G_goto (tgt := 40) hC dX0_gather_86 (by decide) ?_
        exact hnext _ _ _ _ hB1 rfl rfl e
      · exact absurd c55 (by omega)
    | succ c ih =>
      intro j kv iv jv M1 hj hij hB1 e1 e2 e3 e
      subst e1; subst e2; subst e3
      have hlk := hB1.1 k hk
      have hqe : M1 13 k = ((enc (dgf (M1 13 k).toNat) : Nat) : Int) := by rw [enc_dgf (by omega)]; omega
      refine G_il5 hC dX0_gather_52 ?_
      refine G_il2 hC dX0_gather_54 ?_
      refine G_icmp_ge (tgt := 83) hC dX0_gather_55 (by decide) (by omega) (by omega) (fun c55 => ?_) (fun c55 => ?_)
      · exact absurd c55 (by omega)
      · refine G_al0 hC dX0_gather_58 ?_
        refine G_al0 hC dX0_gather_59 ?_
        refine G_getR hC fl_X0_9 (by first | assumption | rfl) (by omega) (by first | assumption | exact hGr _ _ _ rfl) dX0_gather_60 ?_
        refine G_il3 hC dX0_gather_63 ?_
        refine G_callSI hC (c_atN (z := 720) rfl (by omega) hk) ms_X0_32 (by decide) rfl (by decide) dX0_gather_64 rfl (Nat.le_of_ble_eq_true rfl) rfl (fun z64 M64 P64 h64 => ?_)
        obtain ⟨rfl, rfl, rfl⟩ := h64
        rw [hqe]
        refine G_il4 hC dX0_gather_67 ?_
        refine G_il5 hC dX0_gather_69 ?_
        refine G_callSI hC (c_X9_changed (dgf_lo _) (by omega) (by omega) (by omega)) ms_X0_36 (by decide) rfl (by decide) dX0_gather_71 rfl (Nat.le_of_ble_eq_true rfl) rfl (fun z71 M71 P71 h71 => ?_)
        obtain ⟨rfl, rfl, rfl⟩ := h71
        refine G_callVV hC (c_X0_add hGr hB1 (enc_lt (sw_lo (dgf_lo _)))) mv_X0_28 (by first | assumption | rfl) (by omega) (by decide) rfl (by decide) dX0_gather_74 rfl (Nat.le_of_ble_eq_true rfl) rfl (fun M74 P74 h74 => ?_)
        obtain ⟨rfl, rfl⟩ := h74
        refine G_inc5 hC dX0_gather_77 rfl ?_
        refine G_goto (tgt := 52) hC dX0_gather_80 (by decide) ?_
        exact ih (j + 1) _ _ _ _ (by omega) (by omega) (addM_B hB1 (enc_lt (sw_lo (dgf_lo _)))) rfl rfl (by omega) e
  have hlI : ∀ (k : Nat) (M2 : Mem), k < 720 → (∀ (kv : Int) (M3 : Mem) (x4 x5 : AV), LyB M3 → kv = (k : Int) + 1 → M3 = gI n k n 0 M2 → isC2 x4 = false → G X Y 22 [vR 12, vI q, vI n, vI kv, x4, x5] [] M3 P) → ∀ (c i : Nat) (kv iv : Int) (M1 : Mem) (x5 : AV), i + c = n → LyB M1 → kv = (k : Int) → iv = (i : Int) → gI n k c i M1 = gI n k n 0 M2 → G X Y 40 [vR 12, vI q, vI n, vI kv, vI iv, x5] [] M1 P := by
    intro k M2 hk hnext c
    induction c with
    | zero =>
      intro i kv iv M1 x5 hi hB1 e1 e2 e
      subst e1; subst e2
      refine G_il4 hC dX0_gather_40 ?_
      refine G_il2 hC dX0_gather_42 ?_
      refine G_icmp_ge (tgt := 89) hC dX0_gather_43 (by decide) (by omega) (by omega) (fun c43 => ?_) (fun c43 => ?_)
      · refine G_inc3 hC dX0_gather_89 rfl ?_
        refine G_goto (tgt := 22) hC dX0_gather_92 (by decide) ?_
        exact hnext _ _ _ _ hB1 rfl e rfl
      · exact absurd c43 (by omega)
    | succ c ih =>
      intro i kv iv M1 x5 hi hB1 e1 e2 e
      subst e1; subst e2
      refine G_il4 hC dX0_gather_40 ?_
      refine G_il2 hC dX0_gather_42 ?_
      refine G_icmp_ge (tgt := 89) hC dX0_gather_43 (by decide) (by omega) (by omega) (fun c43 => ?_) (fun c43 => ?_)
      · exact absurd c43 (by omega)
      · refine G_il4 hC dX0_gather_46 ?_
        refine G_iconst hC dX0_gather_48 ?_
        refine G_iadd hC dX0_gather_49 ?_
        refine G_is5 hC dX0_gather_50 rfl ?_
        exact hlJ k i M1 hk (by omega) (fun iv kv M3 x5 hB3 e1 e2 e3 => ih (i + 1) _ _ _ _ (by omega) hB3 e2 (by omega) (by rw [e3]; exact e)) (n - (i + 1)) (i + 1) _ _ _ _ (by omega) (by omega) hB1 rfl rfl (by omega) rfl
  have hlK : ∀ (c k : Nat) (kv : Int) (M1 : Mem) (x4 x5 : AV), k + c = 720 → LyB M1 → kv = (k : Int) → gK n c k M1 = gaM M q n → isC2 x4 = false → G X Y 22 [vR 12, vI q, vI n, vI kv, x4, x5] [] M1 P := by
    intro c
    induction c with
    | zero =>
      intro k kv M1 x4 x5 hk hB1 e1 e hx
      subst e1
      refine G_il3 hC dX0_gather_22 ?_
      refine G_sipush hC dX0_gather_23 (by decide) ?_
      refine G_icmp_ge (tgt := 95) hC dX0_gather_26 (by decide) (by omega) (by omega) (fun c26 => ?_) (fun c26 => ?_)
      · exact G_vret hC hQ dX0_gather_95 ⟨rfl, e.symm, rfl⟩
      · exact absurd c26 (by omega)
    | succ c ih =>
      intro k kv M1 x4 x5 hk hB1 e1 e hx
      subst e1
      have hsz := hB1.2.2
      refine G_il3 hC dX0_gather_22 ?_
      refine G_sipush hC dX0_gather_23 (by decide) ?_
      refine G_icmp_ge (tgt := 95) hC dX0_gather_26 (by decide) (by omega) (by omega) (fun c26 => ?_) (fun c26 => ?_)
      · exact absurd c26 (by omega)
      · refine G_il3 hC dX0_gather_29 ?_
        refine G_al0 hC dX0_gather_30 ?_
        refine G_getI hC fl_X0_18 (by first | assumption | rfl) (by omega) dX0_gather_31 ?_
        refine G_icmp_ge (tgt := 95) hC dX0_gather_34 (by decide) (by omega) (by omega) (fun c34 => ?_) (fun c34 => ?_)
        · exact G_vret hC hQ dX0_gather_95 ⟨rfl, by rw [← e, gK, if_neg (by omega)], rfl⟩
        · refine G_iconst hC dX0_gather_37 ?_
          refine G_is4 hC dX0_gather_38 rfl ?_
          exact hlI k M1 (by omega) (fun kv M3 x4 x5 hB3 e1 e3 hx => ih (k + 1) _ _ _ _ (by omega) hB3 (by omega) (by rw [e3, ← e, gK, if_pos c34]) hx) n 0 _ _ _ _ (by omega) hB1 rfl rfl rfl
  refine G_al0 hC dX0_gather_0 ?_
  refine G_iconst hC dX0_gather_1 ?_
  refine G_putI hC fl_X0_18 (by first | assumption | rfl) (by omega) dX0_gather_2 ?_
  refine G_al0 hC dX0_gather_5 ?_
  refine G_getR hC fl_X0_15 (by first | assumption | rfl) (by omega) (by first | assumption | exact hGr _ _ _ rfl) dX0_gather_6 ?_
  refine G_sipush hC dX0_gather_9 (by decide) ?_
  refine G_callSV hC (c_fillI (z := 2048) rfl (by omega)) ms_X0_22 (by decide) rfl (by decide) dX0_gather_12 rfl (Nat.le_of_ble_eq_true rfl) rfl (fun M12 P12 h12 => ?_)
  obtain ⟨rfl, rfl⟩ := h12
  refine G_al0 hC dX0_gather_15 ?_
  refine G_il1 hC dX0_gather_16 ?_
  refine G_callVV hC (c_X0_add hGr (ga0_B (q := q) hB hq) hq) mv_X0_28 (by first | assumption | rfl) (by omega) (by decide) rfl (by decide) dX0_gather_17 rfl (Nat.le_of_ble_eq_true rfl) rfl (fun M17 P17 h17 => ?_)
  obtain ⟨rfl, rfl⟩ := h17
  refine G_iconst hC dX0_gather_20 ?_
  refine G_is3 hC dX0_gather_21 rfl ?_
  exact hlK 720 0 _ _ _ _ (by omega) (addM_B (ga0_B (q := q) hB hq) hq) rfl rfl rfl
