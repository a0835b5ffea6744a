/-! texts, layings, drawn evenings -/
theorem bAnd255 (a : Int) : bAnd a 255 = a % 256 := by
  unfold bAnd
  have h1 : (Int32.ofInt a &&& Int32.ofInt 255).toBitVec = BitVec.ofInt 32 a &&& 255#32 := rfl
  have h2 : (BitVec.ofInt 32 a &&& 255#32).toNat = (a % 4294967296).toNat % 256 := by
    rw [BitVec.toNat_and, BitVec.toNat_ofInt]
    show (a % 4294967296).toNat &&& (2 ^ 8 - 1) = _
    rw [Nat.and_two_pow_sub_one_eq_mod]
  have h3 : (Int32.ofInt a &&& Int32.ofInt 255).toInt = (BitVec.ofInt 32 a &&& 255#32).toInt := rfl
  rw [h3, BitVec.toInt_eq_toNat_of_lt (by omega), h2]
  omega
theorem lAnd255 (a : Int) : lAnd a 255 = a % 256 := by
  unfold lAnd
  have h2 : (BitVec.ofInt 64 a &&& 255#64).toNat = (a % 18446744073709551616).toNat % 256 := by
    rw [BitVec.toNat_and, BitVec.toNat_ofInt]
    show (a % 18446744073709551616).toNat &&& (2 ^ 8 - 1) = _
    rw [Nat.and_two_pow_sub_one_eq_mod]
  have h3 : (Int64.ofInt a &&& Int64.ofInt 255).toInt = (BitVec.ofInt 64 a &&& 255#64).toInt := rfl
  rw [h3, BitVec.toInt_eq_toNat_of_lt (by omega), h2]
  omega
def byN (v : Int) (k : Nat) : Nat := (lShr v (8 * k) % 256).toNat
theorem byN_lt {v : Int} {k : Nat} : byN v k < 256 := by unfold byN; omega
def wrT (v : Int) : Nat → (Nat → Nat) × Nat → (Nat → Nat) × Nat
  | 0, s => s
  | c + 1, s => wrT v c (ud s.1 s.2 (byN v c), s.2 + 1)
theorem wrT_len {v : Int} : ∀ c (s : (Nat → Nat) × Nat), (wrT v c s).2 = s.2 + c
  | 0, _ => rfl
  | c + 1, s => by unfold wrT; rw [wrT_len c]; show s.2 + 1 + c = _; omega
noncomputable def writeS (S : AS) (n v : Int) : Int × AS := if ¬ (1 ≤ n ∧ n ≤ 8) then (-1, S) else if (sLen S : Int) + n > 300 then (-3, S) else ((sLen S : Int) + n, (wrT v n.toNat S.1, S.2))
theorem CIv_tx {c : Nat} {M M' : Mem} {P : PMem} {S : AS} {x : (Nat → Nat) × Nat} (hI : CIv c M P S) (hx : eqx (fun a => a ≤ 7) M M') (hA : pA M' (x, S.2)) (hl : x.2 ≤ 300) : CIv c M' P (x, S.2) ∧ eqx clsX M M' := by
  obtain ⟨a1, ⟨b1, b2⟩, a3, a4, a5, N, lq, a6⟩ := hI
  exact ⟨⟨a1, ⟨hl, b2⟩, hA, pT_x a4 (fun a ha b => hx a (by omega) b), pF_x a5 (fun a h1 h2 b => hx a (by omega) b), N, lq, LyS_x a6 (fun a h1 h2 h3 h4 h5 b => hx a (by omega) b)⟩, fun a ha b => hx a (fun q => ha (by unfold clsX; omega)) b⟩
set_option maxHeartbeats 4000000 in
set_option maxRecDepth 100000 in
theorem c_X9_write {l : Launch} {c : Nat} {S : AS} {n v : Int} {M : Mem} {P : PMem} (hI : CIv c M P S) (hi : i32r n) : CtI l yX9_write cX9_write 5 (some .int) 1 22 45 [vR 0, vI n, vL v] M P (cR c M P (writeS S n v).2 (writeS S n v).1) := by
  refine Ct_of (own := RX9) (L := [vR 0, vI n, vL v, vX 1, vX 1]) (by decide) rfl rfl (Nat.le_of_ble_eq_true rfl) (fun X Y hl hC hQ => ?_)
  obtain ⟨⟨hGr, wa, wb, hw, hwa, hwb⟩, hS, hA, hT, hF, N, lq, hL⟩ := id hI
  obtain ⟨s1, ⟨s2, s3, s4, s5, s6, s7, s8⟩, ⟨s9, s10, s11, s12⟩, s13, s14, s15, s16, s17, s18⟩ := id hS
  obtain ⟨m1, m2, m3, m4⟩ := id s14
  obtain ⟨f1, f2, f3, f4⟩ := id hF
  obtain ⟨t1, t2, t3, t4, t5⟩ := id hT
  obtain ⟨i1, i2, i3, i4⟩ := id hL.1
  obtain ⟨hR0, hR2, hR6, hRr, hRr1, hRk, hRw⟩ := id i1
  have hT8 : isT 8 := Or.inr (Or.inl rfl)
  have hlo := m1.lo
  unfold i32r at *
  obtain ⟨A1, A2, A3⟩ := id hA
  by_cases hn : 1 ≤ n ∧ n ≤ 8
  · by_cases hf : (sLen S : Int) + n > 300
    · refine G_il1 hC dX9_write_0 ?_
      refine G_iconst hC dX9_write_1 ?_
      refine G_icmp_lt (tgt := 11) hC dX9_write_2 (by decide) (by omega) (by omega) (fun c2 => ?_) (fun c2 => ?_)
      · exact absurd c2 (by omega)
      · refine G_il1 hC dX9_write_5 ?_
        refine G_bipush hC dX9_write_6 (by decide) ?_
        refine G_icmp_le (tgt := 13) hC dX9_write_8 (by decide) (by omega) (by omega) (fun c8 => ?_) (fun c8 => ?_)
        · refine G_al0 hC dX9_write_13 ?_
          refine G_getI hC fl_X9_104 (by first | assumption | rfl) (by omega) dX9_write_14 ?_
          rw [A2]
          refine G_il1 hC dX9_write_17 ?_
          refine G_iadd hC dX9_write_18 ?_
          refine G_sipush hC dX9_write_19 (by decide) ?_
          refine G_icmp_le (tgt := 28) hC dX9_write_22 (by decide) (by omega) (by omega) (fun c22 => ?_) (fun c22 => ?_)
          · exact absurd c22 (by omega)
          · refine G_bipush hC dX9_write_25 (by decide) ?_
            exact G_iret hC hQ dX9_write_27 ⟨_, rfl, by unfold writeS; rw [if_neg (fun z => z hn), if_pos hf], by unfold writeS; rw [if_neg (fun z => z hn), if_pos hf]; exact hI, eqx.refl, PX.refl⟩
        · exact absurd c8 (by omega)
    · obtain ⟨e, rfl⟩ : ∃ e : Nat, n = (e : Int) := ⟨n.toNat, by omega⟩
      have hlp : ∀ (c2 : Nat) (kv : Int) (x : (Nat → Nat) × Nat) (M1 : Mem), kv = (c2 : Int) - 1 → c2 ≤ 8 → TxR M1 x.1 → M1 0 1 = (x.2 : Int) → x.2 + c2 = sLen S + e → eqx (fun a => a ≤ 1) M M1 → wrT v c2 x = wrT v e S.1 → G X Y 33 [vR 0, vI e, vL v, vX 1, vI kv] [] M1 P := by
        intro c2
        induction c2 with
        | zero =>
          intro kv x M1 e1 h8 hT1 hL1 hlen hx he
          subst e1
          have he' : x = wrT v e S.1 := he
          have hxl : x.2 = sLen S + e := by omega
          obtain ⟨z1, z2⟩ := CIv_tx (x := wrT v e S.1) hI (hx.mono (fun a ha => by omega)) ⟨by rw [← he']; exact hT1, by rw [← he']; exact hL1, ToB_e (fun a ha b => hx a (by omega) b) A3⟩ (by rw [← he']; omega)
          refine G_il4 hC dX9_write_33 ?_
          refine G_if_lt (tgt := 77) hC dX9_write_35 (by decide) (by omega) (fun c35 => ?_) (fun c35 => ?_)
          · refine G_al0 hC dX9_write_77 ?_
            refine G_getI hC fl_X9_104 (by first | assumption | rfl) (by omega) dX9_write_78 ?_
            rw [hL1, hxl]
            exact G_iret hC hQ dX9_write_81 ⟨_, rfl, by unfold writeS; rw [if_neg (fun z => z hn), if_neg hf]; show _ = (sLen S : Int) + e; omega, by unfold writeS; rw [if_neg (fun z => z hn), if_neg hf]; simp only [Int.toNat_natCast]; exact z1, z2, PX.refl⟩
          · exact absurd c35 (by omega)
        | succ c2 ih =>
          intro kv x M1 e1 h8 hT1 hL1 hlen hx he
          subst e1
          have hby := byN_lt (v := v) (k := c2)
          refine G_il4 hC dX9_write_33 ?_
          refine G_if_lt (tgt := 77) hC dX9_write_35 (by decide) (by omega) (fun c35 => ?_) (fun c35 => ?_)
          · exact absurd c35 (by omega)
          · refine G_al0 hC dX9_write_38 ?_
            refine G_getR hC fl_X9_9 (by first | assumption | rfl) (by omega) (by first | assumption | exact hGr _ _ _ rfl) dX9_write_39 ?_
            refine G_al0 hC dX9_write_42 ?_
            refine G_getI hC fl_X9_104 (by first | assumption | rfl) (by omega) dX9_write_43 ?_
            rw [hL1]
            refine G_ll2 hC dX9_write_46 ?_
            refine G_bipush hC dX9_write_47 (by decide) ?_
            refine G_il4 hC dX9_write_49 ?_
            refine G_imul hC dX9_write_51 ?_
            refine G_lshr hC dX9_write_52 ?_
            refine G_l2i hC dX9_write_53 ?_
            refine G_sipush hC dX9_write_54 (by decide) ?_
            refine G_iand hC dX9_write_57 ?_
            rw [bAnd255, show (8 * (((c2 + 1 : Nat) : Int) - 1)) = 8 * (c2 : Int) by omega, show lShr v (8 * (c2 : Int)) % 256 = ((byN v c2 : Nat) : Int) by unfold byN; omega]
            refine G_callSV hC (c_putN (z := 300) (i := x.2) rfl (by omega) (by omega)) ms_X9_110 (by decide) rfl (by decide) dX9_write_58 rfl (Nat.le_of_ble_eq_true rfl) rfl (fun M58 P58 h58 => ?_)
            obtain ⟨rfl, rfl⟩ := h58
            refine G_al0 hC dX9_write_61 ?_
            refine G_dup hC dX9_write_62 rfl ?_
            refine G_getI hC fl_X9_104 (by first | assumption | rfl) (by omega) dX9_write_63 ?_
            rw [upM_ne (by omega), hL1]
            refine G_iconst hC dX9_write_66 ?_
            refine G_iadd hC dX9_write_67 ?_
            refine G_putI hC fl_X9_104 (by first | assumption | rfl) (by omega) dX9_write_68 ?_
            refine G_inc4 hC dX9_write_71 rfl ?_
            refine G_goto (tgt := 33) hC dX9_write_74 (by decide) ?_
            exact ih _ (ud x.1 x.2 (byN v c2), x.2 + 1) _ (by omega) (by omega) (fun k hk => by
              rw [upM_ne (by omega)]
              unfold upM
              show (if _ then _ else _) = ((ud x.1 x.2 (byN v c2) k : Nat) : Int) ∧ ud x.1 x.2 (byN v c2) k < 256
              unfold ud
              by_cases q : k = x.2
              · rw [if_pos ⟨rfl, q⟩, if_pos q]; exact ⟨rfl, hby⟩
              · rw [if_neg (fun z => q z.2), if_neg q]; exact hT1 k hk) (by rw [upM_self]; show _ = ((x.2 + 1 : Nat) : Int); omega) (by show x.2 + 1 + c2 = _; omega) (fun a ha b => by rw [upM_ne (by omega), upM_ne (by omega)]; exact hx a ha b) he
      refine G_il1 hC dX9_write_0 ?_
      refine G_iconst hC dX9_write_1 ?_
      refine G_icmp_lt (tgt := 11) hC dX9_write_2 (by decide) (by omega) (by omega) (fun c2 => ?_) (fun c2 => ?_)
      · exact absurd c2 (by omega)
      · refine G_il1 hC dX9_write_5 ?_
        refine G_bipush hC dX9_write_6 (by decide) ?_
        refine G_icmp_le (tgt := 13) hC dX9_write_8 (by decide) (by omega) (by omega) (fun c8 => ?_) (fun c8 => ?_)
        · refine G_al0 hC dX9_write_13 ?_
          refine G_getI hC fl_X9_104 (by first | assumption | rfl) (by omega) dX9_write_14 ?_
          rw [A2]
          refine G_il1 hC dX9_write_17 ?_
          refine G_iadd hC dX9_write_18 ?_
          refine G_sipush hC dX9_write_19 (by decide) ?_
          refine G_icmp_le (tgt := 28) hC dX9_write_22 (by decide) (by omega) (by omega) (fun c22 => ?_) (fun c22 => ?_)
          · refine G_il1 hC dX9_write_28 ?_
            refine G_iconst hC dX9_write_29 ?_
            refine G_isub hC dX9_write_30 ?_
            refine G_is4 hC dX9_write_31 rfl ?_
            exact hlp e _ S.1 M (by omega) (by omega) A1 A2 rfl eqx.refl rfl
          · exact absurd c22 (by omega)
        · exact absurd c8 (by omega)
  · refine G_il1 hC dX9_write_0 ?_
    refine G_iconst hC dX9_write_1 ?_
    refine G_icmp_lt (tgt := 11) hC dX9_write_2 (by decide) (by omega) (by omega) (fun c2 => ?_) (fun c2 => ?_)
    · refine G_iconst hC dX9_write_11 ?_
      exact G_iret hC hQ dX9_write_12 ⟨_, rfl, by unfold writeS; rw [if_pos hn], by unfold writeS; rw [if_pos hn]; exact hI, eqx.refl, PX.refl⟩
    · refine G_il1 hC dX9_write_5 ?_
      refine G_bipush hC dX9_write_6 (by decide) ?_
      refine G_icmp_le (tgt := 13) hC dX9_write_8 (by decide) (by omega) (by omega) (fun c8 => ?_) (fun c8 => ?_)
      · exact absurd ⟨by omega, by omega⟩ hn
      · refine G_iconst hC dX9_write_11 ?_
        exact G_iret hC hQ dX9_write_12 ⟨_, rfl, by unfold writeS; rw [if_pos hn], by unfold writeS; rw [if_pos hn]; exact hI, eqx.refl, PX.refl⟩
set_option maxHeartbeats 4000000 in
set_option maxRecDepth 100000 in
theorem c_X9_wipe {l : Launch} {c : Nat} {S : AS} {M : Mem} {P : PMem} (hI : CIv c M P S)  : CtI l yX9_wipe cX9_wipe 2 (some .int) 0 0 45 [vR 0] M P (cR c M P ((sTx S, 0), S.2) (sLen S)) := by
  refine Ct_of (own := RX9) (L := [vR 0, vX 1]) (by decide) rfl rfl (Nat.le_of_ble_eq_true rfl) (fun X Y hl hC hQ => ?_)
  obtain ⟨⟨hGr, wa, wb, hw, hwa, hwb⟩, hS, hA, hT, hF, N, lq, hL⟩ := id hI
  obtain ⟨s1, ⟨s2, s3, s4, s5, s6, s7, s8⟩, ⟨s9, s10, s11, s12⟩, s13, s14, s15, s16, s17, s18⟩ := id hS
  obtain ⟨m1, m2, m3, m4⟩ := id s14
  obtain ⟨f1, f2, f3, f4⟩ := id hF
  obtain ⟨t1, t2, t3, t4, t5⟩ := id hT
  obtain ⟨i1, i2, i3, i4⟩ := id hL.1
  obtain ⟨hR0, hR2, hR6, hRr, hRr1, hRk, hRw⟩ := id i1
  have hT8 : isT 8 := Or.inr (Or.inl rfl)
  have hlo := m1.lo
  obtain ⟨A1, A2, A3⟩ := id hA
  obtain ⟨z1, z2⟩ := CIv_tx (M' := upM M 0 1 0) (x := (sTx S, 0)) hI (fun a ha b => upM_ne (by omega) b) ⟨fun k hk => by rw [upM_ne (by omega)]; exact A1 k hk, by rw [upM_self]; rfl, ToB_e (fun a ha b => upM_ne (by omega) b) A3⟩ (by omega)
  refine G_al0 hC dX9_wipe_0 ?_
  refine G_getI hC fl_X9_104 (by first | assumption | rfl) (by omega) dX9_wipe_1 ?_
  rw [A2]
  refine G_is1 hC dX9_wipe_4 rfl ?_
  refine G_al0 hC dX9_wipe_5 ?_
  refine G_iconst hC dX9_wipe_6 ?_
  refine G_putI hC fl_X9_104 (by first | assumption | rfl) (by omega) dX9_wipe_7 ?_
  refine G_il1 hC dX9_wipe_10 ?_
  exact G_iret hC hQ dX9_wipe_11 ⟨_, rfl, rfl, z1, z2, PX.refl⟩
noncomputable def faultS (S : AS) : Int := match prsF (sTx S) (sLen S) 301 0 ts0 with
  | .inl p => (p : Int)
  | .inr _ => -4
set_option maxHeartbeats 4000000 in
set_option maxRecDepth 100000 in
theorem c_X9_fault {l : Launch} {c : Nat} {S : AS} {M : Mem} {P : PMem} (hI : CIv c M P S)  : CtI l yX9_fault cX9_fault 1 (some .int) 6 140 45 [vR 0] M P (cR c M P S (faultS S)) := by
  refine Ct_of (own := RX9) (L := [vR 0]) (by decide) rfl rfl (Nat.le_of_ble_eq_true rfl) (fun X Y hl hC hQ => ?_)
  obtain ⟨⟨hGr, wa, wb, hw, hwa, hwb⟩, hS, hA, hT, hF, N, lq, hL⟩ := id hI
  obtain ⟨s1, ⟨s2, s3, s4, s5, s6, s7, s8⟩, ⟨s9, s10, s11, s12⟩, s13, s14, s15, s16, s17, s18⟩ := id hS
  obtain ⟨m1, m2, m3, m4⟩ := id s14
  obtain ⟨f1, f2, f3, f4⟩ := id hF
  obtain ⟨t1, t2, t3, t4, t5⟩ := id hT
  obtain ⟨i1, i2, i3, i4⟩ := id hL.1
  obtain ⟨hR0, hR2, hR6, hRr, hRr1, hRk, hRw⟩ := id i1
  have hT8 : isT 8 := Or.inr (Or.inl rfl)
  have hlo := m1.lo
  obtain ⟨A1, A2, A3⟩ := id hA
  refine G_al0 hC dX9_fault_0 ?_
  refine G_getR hC fl_X9_25 (by first | assumption | rfl) (by omega) (by first | assumption | exact hGr _ _ _ rfl) dX9_fault_1 ?_
  refine G_al0 hC dX9_fault_4 ?_
  refine G_getI hC fl_X9_104 (by first | assumption | rfl) (by omega) dX9_fault_5 ?_
  rw [A2]
  refine G_callVI hC (c_X4_read hGr A1 s1 A3) mv_X9_114 (by first | assumption | rfl) (by omega) (by decide) rfl (by decide) dX9_fault_8 rfl (Nat.le_of_ble_eq_true rfl) rfl (fun z8 M8 P8 h8 => ?_)
  skip
  obtain ⟨rfl, r1, r2, r3⟩ := h8
  obtain ⟨z1, z2⟩ := CIv_tx (x := S.1) hI (r1.mono (fun a ha => by unfold sRd at ha; omega)) ⟨fun k hk => by rw [r1 1 (by unfold sRd; omega)]; exact A1 k hk, by rw [r1 0 (by unfold sRd; omega)]; exact A2, r2⟩ s1
  have hr : z8 = faultS S := by
    unfold faultS
    rcases r3 with ⟨p, q1, q2, -⟩ | ⟨Q, q1, q2, -⟩
    · rw [q1]; exact q2
    · rw [q1]; exact q2
  exact G_iret hC hQ dX9_fault_11 ⟨_, rfl, hr, z1, z2, PX.refl⟩
def layTo (x : (Nat → Nat) × Nat) (Q : TS) (S' : AS) : Prop := S'.1 = x ∧ tn (sT S') = qn Q ∧ tr (sT S') = qr Q ∧ (∀ g, g < qn Q → tk (sT S') g = qk Q g ∧ sW S' g = qw Q g ∧ ∀ d, d < 6 → tw (sT S') g d = qv Q g d) ∧ sNd S' = qd Q ∧ sSv S' = qs Q ∧ sCo S' = qc Q ∧ sF0 S' = qf Q ∧ sNow S' = (qf Q, hbit (qf Q), 0) ∧ sUn S' = [] ∧ sKe S' = []
def preL (M : Mem) (P : PMem) (x : (Nat → Nat) × Nat) : Prop := PW P ∧ TxR M x.1 ∧ M 0 1 = (x.2 : Int) ∧ x.2 ≤ 300 ∧ ToB M ∧ (M 37 1 = 8 ∧ M 41 1 = 2) ∧ ∀ k, k < 720 → 0 ≤ M 13 k ∧ M 13 k < 262144
def layQ (M : Mem) (P : PMem) (x : (Nat → Nat) × Nat) : Int → Mem → PMem → Prop := fun r M' P' => P = P' ∧ eqx clsX M M' ∧ ((r = -2 ∧ eqx sRd M M' ∧ ToB M' ∧ ((∃ p, prsF x.1 x.2 301 0 ts0 = .inl p) ∨ ∃ Q, prsF x.1 x.2 301 0 ts0 = .inr Q ∧ qn Q < 2)) ∨ ∃ Q S', prsF x.1 x.2 301 0 ts0 = .inr Q ∧ 2 ≤ qn Q ∧ r = (qn Q : Int) ∧ layTo x Q S' ∧ CIv 0 M' P S')
theorem lay_ok {M8 MF : Mem} {P : PMem} {x : (Nat → Nat) × Nat} {Q : TS} {N : Nat} {lq : Nat → Nat} (hP : PW P) (hTx : TxR MF x.1) (hLen : MF 0 1 = (x.2 : Int)) (hl : x.2 ≤ 300) (hB : ToB M8) (hQ : ToR M8 Q) (h2 : 2 ≤ qn Q) (e0 : ∀ b, b < 6 → MF 8 b = M8 2 b) (e1 : ∀ b, b < 6 → MF 9 b = M8 3 b) (e2 : ∀ b, b < 6 → MF 10 b = M8 4 b) (e3 : ∀ b, b < 36 → MF 11 b = M8 5 b) (e4 : ∀ a, a = 3 ∨ a = 4 ∨ a = 5 → ∀ b, MF a b = M8 a b) (hLy : LyI MF N lq) (hLQ : LQ (qn Q) (qf Q) N lq) (hr : ∀ b, b < 4320 → MF 16 b = -1) (h17 : MF 17 1 = 1023) (h25 : MF 25 2 = 1023 ∧ MF 25 4 = 1023) (h36 : MF 36 0 = (enc (qf Q) : Int) ∧ MF 36 1 = (encH (hbit (qf Q)) : Int) ∧ MF 36 2 = 0) (h37 : MF 37 0 = 0 ∧ MF 41 0 = 0) (h1 : MF 37 1 = 8 ∧ MF 41 1 = 2) : ∃ S', layTo x Q S' ∧ CIv 0 MF P S' := by
  obtain ⟨a0, a1, a2, a3, a4, a5, b1, b2, b3, b4, b5, b6, b7, b8, b9, b10, b11⟩ := id hQ
  refine ⟨(x, ((qn Q, qr Q, fun g => (M8 3 g).toNat, fun g d => (M8 5 (6 * g + d)).toNat), fun g => (M8 4 g).toNat, qd Q, qs Q, qc Q, qf Q), (qf Q, hbit (qf Q), 0), [], []), ⟨rfl, rfl, rfl, fun g hg => ?_, rfl, rfl, rfl, rfl, rfl, rfl, rfl⟩, hP, ⟨hl, ⟨b2, b3, b5, b6, h2, b1, b4⟩, ⟨b7, b8, b9, b10⟩, fun g hg => ?_, ⟨b7, ⟨fun i hi _ => b8 i hi, fun _ => rfl⟩, hbit_lo b7, Nat.zero_le _⟩, fun m hm => (by cases hm), fun m hm => (by cases hm), Nat.zero_le _, Nat.zero_le _⟩, ⟨hTx, hLen, ToB_e e4 hB⟩, ⟨fun g hg => ?_, by rw [e0 1 (by omega)]; exact a1, by rw [e0 3 (by omega)]; exact a3, by rw [e0 4 (by omega)]; exact a4, by rw [e0 5 (by omega)]; exact a5⟩, ⟨h36, h1, ⟨h37.1, fun k x hk => ?_⟩, ⟨h37.2, fun k x hk => ?_⟩⟩, N, lq, ⟨⟨by rw [e0 0 (by omega)]; exact a0, h2, b1, by rw [e0 2 (by omega)]; exact a2, b4, fun g hg => ?_, fun g d hg hd => ?_⟩, hLy, fun k i hk hi hl => Or.inl (hr _ hl), LQ_Clo (f0 := qf Q) h2 b1 hLQ⟩, hLQ, Or.inl h17, Or.inl h25.1, Or.inl h25.2⟩
  · obtain ⟨c1, c2, c3, c4, c5⟩ := b11 g hg
    refine ⟨by show (M8 3 g).toNat = _; rw [c1]; omega, by show (M8 4 g).toNat = _; rw [c3]; omega, fun d hd => ?_⟩
    show (M8 5 (6 * g + d)).toNat = _
    rw [(c5 d hd).1]; omega
  · obtain ⟨c1, c2, c3, c4, c5⟩ := b11 g hg
    show (M8 4 g).toNat < 2 ^ qd Q
    rw [c3]; omega
  · have := (hB.1 g hg).2
    show MF 10 g = (((M8 4 g).toNat : Nat) : Int) ∧ (M8 4 g).toNat < 64
    rw [e2 g hg]; omega
  · have hk' : ([] : List MO)[k]? = some x := hk
    simp at hk'
  · have hk' : ([] : List MO)[k]? = some x := hk
    simp at hk'
  · have := (hB.1 g hg).1
    show MF 9 g = (((M8 3 g).toNat : Nat) : Int) ∧ (M8 3 g).toNat ≤ 3
    rw [e1 g hg]; omega
  · have := hB.2 (6 * g + d) (by omega)
    show MF 11 (6 * g + d) = (((M8 5 (6 * g + d)).toNat : Nat) : Int) ∧ (M8 5 (6 * g + d)).toNat ≤ 9
    rw [e3 _ (by omega)]; omega
set_option maxHeartbeats 4000000 in
set_option maxRecDepth 100000 in
theorem c_X9_lay {l : Launch} {x : (Nat → Nat) × Nat} {M : Mem} {P : PMem} (hpre : preL M P x) : CtI l yX9_lay cX9_lay 1 (some .int) 6 140 45 [vR 0] M P (layQ M P x) := by
  refine Ct_of (own := RX9) (L := [vR 0]) (by decide) rfl rfl (Nat.le_of_ble_eq_true rfl) (fun X Y hl hC hQ => ?_)
  obtain ⟨p1, p2, p3, p4, p5, p6, p7⟩ := id hpre
  have hGr := p1.1
  refine G_al0 hC dX9_lay_0 ?_
  refine G_getR hC fl_X9_25 (by first | assumption | rfl) (by omega) (by first | assumption | exact hGr _ _ _ rfl) dX9_lay_1 ?_
  refine G_al0 hC dX9_lay_4 ?_
  refine G_getI hC fl_X9_104 (by first | assumption | rfl) (by omega) dX9_lay_5 ?_
  rw [p3]
  refine G_callVI hC (c_X4_read hGr p2 p4 p5) mv_X9_114 (by first | assumption | rfl) (by omega) (by decide) rfl (by decide) dX9_lay_8 rfl (Nat.le_of_ble_eq_true rfl) rfl (fun z8 M8 P8 h8 => ?_)
  skip
  obtain ⟨rfl, r1, r2, r3⟩ := h8
  have hcx : eqx clsX M M8 := r1.mono (fun a ha => by unfold sRd at ha; unfold clsX; omega)
  rcases r3 with ⟨p, q1, rfl, q3⟩ | ⟨Q, q1, rfl, q2⟩
  · refine G_bipush hC dX9_lay_11 (by decide) ?_
    refine G_icmp_ne (tgt := 27) hC dX9_lay_13 (by decide) (by omega) (by omega) (fun c13 => ?_) (fun c13 => ?_)
    · refine G_bipush hC dX9_lay_27 (by decide) ?_
      exact G_iret hC hQ dX9_lay_29 ⟨_, rfl, rfl, hcx, Or.inl ⟨rfl, r1, r2, Or.inl ⟨p, q1⟩⟩⟩
    · exact absurd c13 (by omega)
  · have hQ0 := q2.1
    have hQ6 := q2.2.2.2.2.2.2.1
    by_cases hn2 : qn Q < 2
    · refine G_bipush hC dX9_lay_11 (by decide) ?_
      refine G_icmp_ne (tgt := 27) hC dX9_lay_13 (by decide) (by omega) (by omega) (fun c13 => ?_) (fun c13 => ?_)
      · exact absurd rfl c13
      · refine G_al0 hC dX9_lay_16 ?_
        refine G_getR hC fl_X9_16 (by first | assumption | rfl) (by omega) (by first | assumption | exact hGr _ _ _ rfl) dX9_lay_17 ?_
        refine G_getI hC fl_X9_118 (by first | assumption | rfl) (by omega) dX9_lay_20 ?_
        rw [hQ0]
        refine G_iconst hC dX9_lay_23 ?_
        refine G_icmp_ge (tgt := 30) hC dX9_lay_24 (by decide) (by omega) (by omega) (fun c24 => ?_) (fun c24 => ?_)
        · exact absurd c24 (by omega)
        · refine G_bipush hC dX9_lay_27 (by decide) ?_
          exact G_iret hC hQ dX9_lay_29 ⟨_, rfl, rfl, hcx, Or.inl ⟨rfl, r1, r2, Or.inr ⟨Q, q1, hn2⟩⟩⟩
    · have hlieQ : lieOK (qf Q) := q2.2.2.2.2.2.2.2.2.2.2.2.2.1
      have hloQ : lo8 (qf Q) := hlieQ.lo
      have hQ5 := q2.2.2.2.2.2.1
      have h7Q : ∀ i, qn Q ≤ i → i < 6 → qf Q i = 7 := fun i hi _ => q2.2.2.2.2.2.2.2.2.2.2.2.2.2.1 i hi
      refine G_bipush hC dX9_lay_11 (by decide) ?_
      refine G_icmp_ne (tgt := 27) hC dX9_lay_13 (by decide) (by omega) (by omega) (fun c13 => ?_) (fun c13 => ?_)
      · exact absurd rfl c13
      · refine G_al0 hC dX9_lay_16 ?_
        refine G_getR hC fl_X9_16 (by first | assumption | rfl) (by omega) (by first | assumption | exact hGr _ _ _ rfl) dX9_lay_17 ?_
        refine G_getI hC fl_X9_118 (by first | assumption | rfl) (by omega) dX9_lay_20 ?_
        rw [hQ0]
        refine G_iconst hC dX9_lay_23 ?_
        refine G_icmp_ge (tgt := 30) hC dX9_lay_24 (by decide) (by omega) (by omega) (fun c24 => ?_) (fun c24 => ?_)
        · refine G_al0 hC dX9_lay_30 ?_
          refine G_getR hC fl_X9_29 (by first | assumption | rfl) (by omega) (by first | assumption | exact hGr _ _ _ rfl) dX9_lay_31 ?_
          refine G_al0 hC dX9_lay_34 ?_
          refine G_getR hC fl_X9_16 (by first | assumption | rfl) (by omega) (by first | assumption | exact hGr _ _ _ rfl) dX9_lay_35 ?_
          refine G_callVV hC (c_X7_become (t := 8) (o := 2) hGr (Or.inr (Or.inl rfl)) (Or.inl rfl) (by omega)) mv_X9_121 (by first | assumption | rfl) (by omega) (by decide) rfl (by decide) dX9_lay_38 rfl (Nat.le_of_ble_eq_true rfl) rfl (fun M38 P38 h38 => ?_)
          obtain ⟨q38, rfl⟩ := h38
          obtain ⟨be1, be2, be3, be4, be5⟩ := beM_at (M := M8) (t := 8) (o := 2) (by omega)
          rw [q38] at be1 be2 be3 be4 be5
          have e385 : M38 8 5 = (enc (qf Q) : Int) := by rw [be1 5 (by omega)]; exact hQ5
          have e380 : M38 8 0 = (qn Q : Int) := by rw [be1 0 (by omega)]; exact hQ0
          have h13 : ∀ k, k < 720 → 0 ≤ M38 13 k ∧ M38 13 k < 262144 := fun k hk => by
            rw [be5 13 (by omega) (by omega) (by omega) (by omega), r1 13 (by unfold sRd; omega)]; exact p7 k hk
          refine G_al0 hC dX9_lay_41 ?_
          refine G_getR hC fl_X9_35 (by first | assumption | rfl) (by omega) (by first | assumption | exact hGr _ _ _ rfl) dX9_lay_42 ?_
          refine G_al0 hC dX9_lay_45 ?_
          refine G_getR hC fl_X9_29 (by first | assumption | rfl) (by omega) (by first | assumption | exact hGr _ _ _ rfl) dX9_lay_46 ?_
          refine G_getI hC fl_X9_125 (by first | assumption | rfl) (by omega) dX9_lay_49 ?_
          rw [e385]
          refine G_al0 hC dX9_lay_52 ?_
          refine G_getR hC fl_X9_29 (by first | assumption | rfl) (by omega) (by first | assumption | exact hGr _ _ _ rfl) dX9_lay_53 ?_
          refine G_getI hC fl_X9_118 (by first | assumption | rfl) (by omega) dX9_lay_56 ?_
          rw [e380]
          refine G_callVV hC (c_X0_gather hGr h13 (enc_lt hloQ) hQ6) mv_X9_128 (by first | assumption | rfl) (by omega) (by decide) rfl (by decide) dX9_lay_59 rfl (Nat.le_of_ble_eq_true rfl) rfl (fun M59 P59 h59 => ?_)
          obtain ⟨q59, rfl⟩ := h59
          obtain ⟨N, lq, g1, g2, g3⟩ := ga_all (M := M38) (n := qn Q) (f0 := qf Q) h13 hQ6 hloQ h7Q
          rw [q59] at g1 g3
          refine G_al0 hC dX9_lay_62 ?_
          refine G_getR hC fl_X9_44 (by first | assumption | rfl) (by omega) (by first | assumption | exact hGr _ _ _ rfl) dX9_lay_63 ?_
          refine G_callVV hC (c_X3_forget (mv := 15) (tb := 8) (len := 4320) hGr (Or.inl ⟨rfl, rfl, rfl⟩)) mv_X9_132 (by first | assumption | rfl) (by omega) (by decide) rfl (by decide) dX9_lay_66 rfl (Nat.le_of_ble_eq_true rfl) rfl (fun M66 P66 h66 => ?_)
          obtain ⟨q66, rfl⟩ := h66
          refine G_al0 hC dX9_lay_69 ?_
          refine G_getR hC fl_X9_53 (by first | assumption | rfl) (by omega) (by first | assumption | exact hGr _ _ _ rfl) dX9_lay_70 ?_
          refine G_callVV hC (c_X5_forget hGr isSe17) mv_X9_135 (by first | assumption | rfl) (by omega) (by decide) rfl (by decide) dX9_lay_73 rfl (Nat.le_of_ble_eq_true rfl) rfl (fun M73 P73 h73 => ?_)
          obtain ⟨q73, rfl⟩ := h73
          refine G_al0 hC dX9_lay_76 ?_
          refine G_getR hC fl_X9_69 (by first | assumption | rfl) (by omega) (by first | assumption | exact hGr _ _ _ rfl) dX9_lay_77 ?_
          refine G_callVV hC (c_X8_forget hGr) mv_X9_136 (by first | assumption | rfl) (by omega) (by decide) rfl (by decide) dX9_lay_80 rfl (Nat.le_of_ble_eq_true rfl) rfl (fun M80 P80 h80 => ?_)
          obtain ⟨q80, rfl⟩ := h80
          have e80 : ∀ a, a ≠ 16 → a ≠ 17 → a ≠ 25 → ∀ b, M80 a b = M59 a b := fun a h1 h2 h3 b => by
            rw [← q80, ← q73, ← q66, upM_ne h3, upM_ne h3]
            unfold foM flM
            rw [upM_ne h2, upM_ne h2, upM_ne h2, if_neg (fun z => h1 z.1)]
          have e805 : M80 8 5 = (enc (qf Q) : Int) := by rw [e80 8 (by omega) (by omega) (by omega), g3 8 (by omega) (by omega) (by omega)]; exact e385
          have e800 : M80 8 0 = (qn Q : Int) := by rw [e80 8 (by omega) (by omega) (by omega), g3 8 (by omega) (by omega) (by omega)]; exact e380
          have e8M : ∀ a, a < 8 ∨ 36 ≤ a → ∀ b, M80 a b = M8 a b := fun a ha b => by
            rw [e80 a (by omega) (by omega) (by omega), g3 a (by omega) (by omega) (by omega), be5 a (by omega) (by omega) (by omega) (by omega)]
          refine G_al0 hC dX9_lay_83 ?_
          refine G_getR hC fl_X9_76 (by first | assumption | rfl) (by omega) (by first | assumption | exact hGr _ _ _ rfl) dX9_lay_84 ?_
          refine G_al0 hC dX9_lay_87 ?_
          refine G_getR hC fl_X9_29 (by first | assumption | rfl) (by omega) (by first | assumption | exact hGr _ _ _ rfl) dX9_lay_88 ?_
          refine G_getI hC fl_X9_125 (by first | assumption | rfl) (by omega) dX9_lay_91 ?_
          rw [e805]
          refine G_putI hC fl_X9_137 (by first | assumption | rfl) (by omega) dX9_lay_94 ?_
          refine G_al0 hC dX9_lay_97 ?_
          refine G_getR hC fl_X9_76 (by first | assumption | rfl) (by omega) (by first | assumption | exact hGr _ _ _ rfl) dX9_lay_98 ?_
          refine G_al0 hC dX9_lay_101 ?_
          refine G_getR hC fl_X9_29 (by first | assumption | rfl) (by omega) (by first | assumption | exact hGr _ _ _ rfl) dX9_lay_102 ?_
          refine G_getI hC fl_X9_125 (by first | assumption | rfl) (by omega) dX9_lay_105 ?_
          rw [upM_ne (by omega), e805]
          refine G_callSL hC (c_X9_pairsOf hlieQ) ms_X9_140 (by decide) rfl (by decide) dX9_lay_108 rfl (Nat.le_of_ble_eq_true rfl) rfl (fun z108 M108 P108 h108 => ?_)
          obtain ⟨rfl, rfl, rfl⟩ := h108
          refine G_putL hC fl_X9_144 (by first | assumption | rfl) (by omega) dX9_lay_111 ?_
          refine G_al0 hC dX9_lay_114 ?_
          refine G_getR hC fl_X9_76 (by first | assumption | rfl) (by omega) (by first | assumption | exact hGr _ _ _ rfl) dX9_lay_115 ?_
          refine G_iconst hC dX9_lay_118 ?_
          refine G_putI hC fl_X9_148 (by first | assumption | rfl) (by omega) dX9_lay_119 ?_
          refine G_al0 hC dX9_lay_122 ?_
          refine G_getR hC fl_X9_85 (by first | assumption | rfl) (by omega) (by first | assumption | exact hGr _ _ _ rfl) dX9_lay_123 ?_
          refine G_iconst hC dX9_lay_126 ?_
          refine G_putI hC fl_X9_151 (by first | assumption | rfl) (by omega) dX9_lay_127 ?_
          refine G_al0 hC dX9_lay_130 ?_
          refine G_getR hC fl_X9_89 (by first | assumption | rfl) (by omega) (by first | assumption | exact hGr _ _ _ rfl) dX9_lay_131 ?_
          refine G_iconst hC dX9_lay_134 ?_
          refine G_putI hC fl_X9_151 (by first | assumption | rfl) (by omega) dX9_lay_135 ?_
          refine G_al0 hC dX9_lay_138 ?_
          refine G_getR hC fl_X9_29 (by first | assumption | rfl) (by omega) (by first | assumption | exact hGr _ _ _ rfl) dX9_lay_139 ?_
          refine G_getI hC fl_X9_118 (by first | assumption | rfl) (by omega) dX9_lay_142 ?_
          rw [upM_ne (by omega), upM_ne (by omega), upM_ne (by omega), upM_ne (by omega), upM_ne (by omega), e800]
          refine G_iret hC hQ dX9_lay_145 ?_
          skip
          have efx : ∀ a, a < 36 → ∀ b, upM (upM (upM (upM (upM M80 36 0 (enc (qf Q))) 36 1 (encH (hbit (qf Q)))) 36 2 0) 37 0 0) 41 0 0 a b = M80 a b := fun a ha b => by
            rw [upM_ne (by omega), upM_ne (by omega), upM_ne (by omega), upM_ne (by omega), upM_ne (by omega)]
          have e89 : ∀ a, 8 ≤ a → a ≤ 11 → ∀ b, M80 a b = M38 a b := fun a h1 h2 b => by
            rw [e80 a (by omega) (by omega) (by omega), g3 a (by omega) (by omega) (by omega)]
          obtain ⟨S', k1, k2⟩ := lay_ok (M8 := M8) (MF := upM (upM (upM (upM (upM M80 36 0 (enc (qf Q))) 36 1 (encH (hbit (qf Q)))) 36 2 0) 37 0 0) 41 0 0) (x := x) (Q := Q) p1 (fun k hk => by rw [efx 1 (by omega), e8M 1 (by omega), r1 1 (by unfold sRd; omega)]; exact p2 k hk) (by rw [efx 0 (by omega), e8M 0 (by omega), r1 0 (by unfold sRd; omega)]; exact p3) p4 r2 q2 (by omega)
            (fun b hb => by rw [efx 8 (by omega), e89 8 (by omega) (by omega)]; exact be1 b hb) (fun b hb => by rw [efx 9 (by omega), e89 9 (by omega) (by omega)]; exact be2 b hb) (fun b hb => by rw [efx 10 (by omega), e89 10 (by omega) (by omega)]; exact be3 b hb) (fun b hb => by rw [efx 11 (by omega), e89 11 (by omega) (by omega)]; exact be4 b hb) (fun a ha b => by rw [efx a (by omega), e8M a (by omega)])
            (LyI_congr g1 (fun b => by rw [efx 12 (by omega), e80 12 (by omega) (by omega) (by omega)]) (fun b => by rw [efx 13 (by omega), e80 13 (by omega) (by omega) (by omega)]) (fun b => by rw [efx 14 (by omega), e80 14 (by omega) (by omega) (by omega)])) g2
            (fun b hb => by
              rw [efx 16 (by omega), ← q80, ← q73, ← q66, upM_ne (by omega), upM_ne (by omega)]
              unfold foM flM
              rw [upM_ne (by omega), upM_ne (by omega), upM_ne (by omega), if_pos ⟨rfl, hb⟩])
            (by rw [efx 17 (by omega), ← q80, ← q73, upM_ne (by omega), upM_ne (by omega)]; unfold foM; rw [upM_nej (by omega), upM_nej (by omega), upM_self])
            ⟨by rw [efx 25 (by omega), ← q80, upM_nej (by omega), upM_self], by rw [efx 25 (by omega), ← q80, upM_self]⟩
            ⟨by rw [upM_ne (by omega), upM_ne (by omega), upM_nej (by omega), upM_nej (by omega), upM_self], by rw [upM_ne (by omega), upM_ne (by omega), upM_nej (by omega), upM_self], by rw [upM_ne (by omega), upM_ne (by omega), upM_self]⟩
            ⟨by rw [upM_ne (by omega), upM_self], by rw [upM_self]⟩
            ⟨by rw [upM_ne (by omega), upM_nej (by omega), upM_ne (by omega), upM_ne (by omega), upM_ne (by omega), e8M 37 (by omega), r1 37 (by unfold sRd; omega)]; exact p6.1, by rw [upM_nej (by omega), upM_ne (by omega), upM_ne (by omega), upM_ne (by omega), upM_ne (by omega), e8M 41 (by omega), r1 41 (by unfold sRd; omega)]; exact p6.2⟩
          exact ⟨_, rfl, rfl, hcx.trans (fun a ha b => by
            unfold clsX at ha
            rw [upM_ne (by omega), upM_ne (by omega), upM_ne (by omega), upM_ne (by omega), upM_ne (by omega)]; exact e8M a (by omega) b), Or.inr ⟨Q, S', q1, by omega, rfl, k1, k2⟩⟩
        · exact absurd c24 (by omega)
theorem dwF_lo {T : TB} {z : Nat} : ∀ c k (s : (Nat → Nat) × Nat), lo8 s.1 → lo8 (dwF T z c k s).1
  | 0, _, _, h => h
  | c + 1, k, s, h => by
    unfold dwF
    refine dwF_lo c (k + 1) _ ?_
    split
    · exact aft_lo h
    · exact h
theorem dwF_1 {T : TB} {z c k : Nat} {s : (Nat → Nat) × Nat} (h : can T s.1 (drw z k % tn T) (drw z k / 8 % tn T)) : dwF T z (c + 1) k s = dwF T z c (k + 1) (aft T s.1 (drw z k % tn T) (drw z k / 8 % tn T), s.2 + 1) := by
  conv => lhs; unfold dwF
  rw [if_pos h]
theorem dwF_0 {T : TB} {z c k : Nat} {s : (Nat → Nat) × Nat} (h : ¬ can T s.1 (drw z k % tn T) (drw z k / 8 % tn T)) : dwF T z (c + 1) k s = dwF T z c (k + 1) s := by
  conv => lhs; unfold dwF
  rw [if_neg h]
theorem drw_lt {z k : Nat} : drw z k < 65521 := Nat.mod_lt _ (by omega)
set_option maxHeartbeats 4000000 in
set_option maxRecDepth 100000 in
theorem c_X9_drawn {l : Launch} {c : Nat} {S : AS} {z n d : Int} {M : Mem} {P : PMem} (hI : CIv c M P S) (hz0 : i32r z) (hn0 : i32r n) (hd0 : i32r d) : CtI l yX9_drawn cX9_drawn 10 (some .int) 3 78 45 [vR 0, vI z, vI n, vI d] M P (cR c M P S (drawnS S z n d)) := by
  refine Ct_of (own := RX9) (L := [vR 0, vI z, vI n, vI d, vX 1, vX 1, vX 1, vX 1, vX 1, vX 1]) (by decide) rfl rfl (Nat.le_of_ble_eq_true rfl) (fun X Y hl hC hQ => ?_)
  obtain ⟨⟨hGr, wa, wb, hw, hwa, hwb⟩, hS, hA, hT, hF, N, lq, hL⟩ := id hI
  obtain ⟨s1, ⟨s2, s3, s4, s5, s6, s7, s8⟩, ⟨s9, s10, s11, s12⟩, s13, s14, s15, s16, s17, s18⟩ := id hS
  obtain ⟨m1, m2, m3, m4⟩ := id s14
  obtain ⟨f1, f2, f3, f4⟩ := id hF
  obtain ⟨t1, t2, t3, t4, t5⟩ := id hT
  obtain ⟨i1, i2, i3, i4⟩ := id hL.1
  obtain ⟨hR0, hR2, hR6, hRr, hRr1, hRk, hRw⟩ := id i1
  have hT8 : isT 8 := Or.inr (Or.inl rfl)
  have hlo := m1.lo
  unfold i32r at *
  by_cases hv : (0 ≤ z ∧ z ≤ 9999 ∧ 1 ≤ n ∧ n ≤ 60 ∧ (d = -1 ∨ isD S d))
  · obtain ⟨z, rfl⟩ : ∃ e : Nat, z = (e : Int) := ⟨z.toNat, by omega⟩
    obtain ⟨n, rfl⟩ : ∃ e : Nat, n = (e : Int) := ⟨n.toNat, by omega⟩
    have hdr : -1 ≤ d ∧ d < 6 := by
      rcases hv.2.2.2.2 with q | q
      · omega
      · unfold isD at q; omega
    have hlp : ∀ (c2 k : Nat) (kv : Int) (s : (Nat → Nat) × Nat) (x7 x8 x9 : AV), k + c2 = n → kv = (k : Int) → lo8 s.1 → s.2 ≤ k → dwF (sT S) z c2 k s = dwF (sT S) z n 0 ((sNow S).1, 0) → G X Y 52 [vR 0, vI z, vI n, vI d, vI (enc s.1), vI s.2, vI kv, x7, x8, x9] [] M P := by
      intro c2
      induction c2 with
      | zero =>
        intro k kv s x7 x8 x9 hk e1 hs hs2 he
        subst e1
        replace he : s = dwF (sT S) z n 0 ((sNow S).1, 0) := he
        have hsr := sFrom_r s.1 d 6 0
        refine G_il6 hC dX9_drawn_52 ?_
        refine G_il2 hC dX9_drawn_54 ?_
        refine G_icmp_ge (tgt := 131) hC dX9_drawn_55 (by decide) (by omega) (by omega) (fun c55 => ?_) (fun c55 => ?_)
        · refine G_il3 hC dX9_drawn_131 ?_
          refine G_iconst hC dX9_drawn_132 ?_
          refine G_icmp_ne (tgt := 139) hC dX9_drawn_133 (by decide) (by omega) (by omega) (fun c133 => ?_) (fun c133 => ?_)
          · refine G_il4 hC dX9_drawn_139 ?_
            refine G_il3 hC dX9_drawn_141 ?_
            refine G_callSI hC (c_X9_seatOf hs (by omega)) ms_X9_208 (by decide) rfl (by decide) dX9_drawn_142 rfl (Nat.le_of_ble_eq_true rfl) rfl (fun z142 M142 P142 h142 => ?_)
            obtain ⟨rfl, rfl, rfl⟩ := h142
            refine G_is6 hC dX9_drawn_145 rfl ?_
            refine G_il6 hC dX9_drawn_147 ?_
            refine G_if_ge (tgt := 157) hC dX9_drawn_149 (by decide) (by omega) (fun c149 => ?_) (fun c149 => ?_)
            · refine G_il6 hC dX9_drawn_157 ?_
              exact G_iret hC hQ dX9_drawn_159 ⟨_, rfl, by unfold drawnS; rw [if_pos hv, if_neg c133]; simp only [Int.toNat_natCast]; rw [← he]; first | (rw [if_pos (by omega)]; done) | (rw [if_neg (by omega)]; done), hI, eqx.refl, PX.refl⟩
            · refine G_bipush hC dX9_drawn_152 (by decide) ?_
              refine G_goto (tgt := 159) hC dX9_drawn_154 (by decide) ?_
              exact G_iret hC hQ dX9_drawn_159 ⟨_, rfl, by unfold drawnS; rw [if_pos hv, if_neg c133]; simp only [Int.toNat_natCast]; rw [← he]; first | (rw [if_pos (by omega)]; done) | (rw [if_neg (by omega)]; done), hI, eqx.refl, PX.refl⟩
          · refine G_il5 hC dX9_drawn_136 ?_
            exact G_iret hC hQ dX9_drawn_138 ⟨_, rfl, by unfold drawnS; rw [if_pos hv, if_pos c133]; simp only [Int.toNat_natCast]; rw [← he], hI, eqx.refl, PX.refl⟩
        · exact absurd c55 (by omega)
      | succ c2 ih =>
        intro k kv s x7 x8 x9 hk e1 hs hs2 he
        subst e1
        have hdw := drw_lt (z := z) (k := k)
        have hm1 : drw z k % tn (sT S) < tn (sT S) := Nat.mod_lt _ (by omega)
        have hm2 : drw z k / 8 % tn (sT S) < tn (sT S) := Nat.mod_lt _ (by omega)
        by_cases hcan : can (sT S) s.1 (drw z k % tn (sT S)) (drw z k / 8 % tn (sT S))
        · replace he : dwF (sT S) z c2 (k + 1) (aft (sT S) s.1 (drw z k % tn (sT S)) (drw z k / 8 % tn (sT S)), s.2 + 1) = dwF (sT S) z n 0 ((sNow S).1, 0) := by
            rw [← he, dwF_1 hcan]
          refine G_il6 hC dX9_drawn_52 ?_
          refine G_il2 hC dX9_drawn_54 ?_
          refine G_icmp_ge (tgt := 131) hC dX9_drawn_55 (by decide) (by omega) (by omega) (fun c55 => ?_) (fun c55 => ?_)
          · exact absurd c55 (by omega)
          · refine G_il1 hC dX9_drawn_58 ?_
            refine G_il6 hC dX9_drawn_59 ?_
            refine G_callSI hC (c_X9_drawOf (z := z) (k := k) (by omega) (by omega)) ms_X9_265 (by decide) rfl (by decide) dX9_drawn_61 rfl (Nat.le_of_ble_eq_true rfl) rfl (fun z61 M61 P61 h61 => ?_)
            obtain ⟨rfl, rfl, rfl⟩ := h61
            refine G_is7 hC dX9_drawn_64 rfl ?_
            refine G_al0 hC dX9_drawn_66 ?_
            refine G_getR hC fl_X9_29 (by first | assumption | rfl) (by omega) (by first | assumption | exact hGr _ _ _ rfl) dX9_drawn_67 ?_
            refine G_il7 hC dX9_drawn_70 ?_
            refine G_callVI hC (c_X7_guestBy hGr hT8 i1 (by omega)) mv_X9_268 (by first | assumption | rfl) (by omega) (by decide) rfl (by decide) dX9_drawn_72 rfl (Nat.le_of_ble_eq_true rfl) rfl (fun z72 M72 P72 h72 => ?_)
            obtain ⟨rfl, rfl, rfl⟩ := h72
            rw [show ((drw z k : Nat) : Int) % (tn (sT S) : Int) = ((drw z k % tn (sT S) : Nat) : Int) by simp]
            refine G_is8 hC dX9_drawn_75 rfl ?_
            refine G_al0 hC dX9_drawn_77 ?_
            refine G_getR hC fl_X9_29 (by first | assumption | rfl) (by omega) (by first | assumption | exact hGr _ _ _ rfl) dX9_drawn_78 ?_
            refine G_il7 hC dX9_drawn_81 ?_
            refine G_bipush hC dX9_drawn_83 (by decide) ?_
            refine G_idiv hC dX9_drawn_85 (by omega) (by omega) ?_
            refine G_callVI hC (c_X7_guestBy hGr hT8 i1 (by omega)) mv_X9_268 (by first | assumption | rfl) (by omega) (by decide) rfl (by decide) dX9_drawn_86 rfl (Nat.le_of_ble_eq_true rfl) rfl (fun z86 M86 P86 h86 => ?_)
            obtain ⟨rfl, rfl, rfl⟩ := h86
            rw [show ((drw z k : Nat) : Int) / 8 % (tn (sT S) : Int) = ((drw z k / 8 % tn (sT S) : Nat) : Int) by simp]
            refine G_is9 hC dX9_drawn_89 rfl ?_
            refine G_al0 hC dX9_drawn_91 ?_
            refine G_getR hC fl_X9_29 (by first | assumption | rfl) (by omega) (by first | assumption | exact hGr _ _ _ rfl) dX9_drawn_92 ?_
            refine G_il4 hC dX9_drawn_95 ?_
            refine G_il8 hC dX9_drawn_97 ?_
            refine G_il9 hC dX9_drawn_99 ?_
            refine G_callVI hC (c_X7_canBeAsked hGr hT8 i1 hs (by omega) (by omega)) mv_X9_182 (by first | assumption | rfl) (by omega) (by decide) rfl (by decide) dX9_drawn_101 rfl (Nat.le_of_ble_eq_true rfl) rfl (fun z101 M101 P101 h101 => ?_)
            obtain ⟨rfl, rfl, rfl⟩ := h101
            rw [canI_1 hcan]
            refine G_if_eq (tgt := 125) hC dX9_drawn_104 (by decide) (by omega) (fun c104 => ?_) (fun c104 => ?_)
            · exact absurd c104 (by omega)
            · refine G_al0 hC dX9_drawn_107 ?_
              refine G_getR hC fl_X9_29 (by first | assumption | rfl) (by omega) (by first | assumption | exact hGr _ _ _ rfl) dX9_drawn_108 ?_
              refine G_il4 hC dX9_drawn_111 ?_
              refine G_il8 hC dX9_drawn_113 ?_
              refine G_il9 hC dX9_drawn_115 ?_
              refine G_callVI hC (c_X7_lieAfter hGr hT8 i1 hs hm1 hm2) mv_X9_190 (by first | assumption | rfl) (by omega) (by decide) rfl (by decide) dX9_drawn_117 rfl (Nat.le_of_ble_eq_true rfl) rfl (fun z117 M117 P117 h117 => ?_)
              obtain ⟨rfl, rfl, rfl⟩ := h117
              refine G_is4 hC dX9_drawn_120 rfl ?_
              refine G_inc5 hC dX9_drawn_122 rfl ?_
              refine G_inc6 hC dX9_drawn_125 rfl ?_
              refine G_goto (tgt := 52) hC dX9_drawn_128 (by decide) ?_
              exact ih (k + 1) _ (aft (sT S) s.1 (drw z k % tn (sT S)) (drw z k / 8 % tn (sT S)), s.2 + 1) _ _ _ (by omega) (by omega) (aft_lo hs) (by show s.2 + 1 ≤ _; omega) he
        · replace he : dwF (sT S) z c2 (k + 1) s = dwF (sT S) z n 0 ((sNow S).1, 0) := by
            rw [← he, dwF_0 hcan]
          refine G_il6 hC dX9_drawn_52 ?_
          refine G_il2 hC dX9_drawn_54 ?_
          refine G_icmp_ge (tgt := 131) hC dX9_drawn_55 (by decide) (by omega) (by omega) (fun c55 => ?_) (fun c55 => ?_)
          · exact absurd c55 (by omega)
          · refine G_il1 hC dX9_drawn_58 ?_
            refine G_il6 hC dX9_drawn_59 ?_
            refine G_callSI hC (c_X9_drawOf (z := z) (k := k) (by omega) (by omega)) ms_X9_265 (by decide) rfl (by decide) dX9_drawn_61 rfl (Nat.le_of_ble_eq_true rfl) rfl (fun z61 M61 P61 h61 => ?_)
            obtain ⟨rfl, rfl, rfl⟩ := h61
            refine G_is7 hC dX9_drawn_64 rfl ?_
            refine G_al0 hC dX9_drawn_66 ?_
            refine G_getR hC fl_X9_29 (by first | assumption | rfl) (by omega) (by first | assumption | exact hGr _ _ _ rfl) dX9_drawn_67 ?_
            refine G_il7 hC dX9_drawn_70 ?_
            refine G_callVI hC (c_X7_guestBy hGr hT8 i1 (by omega)) mv_X9_268 (by first | assumption | rfl) (by omega) (by decide) rfl (by decide) dX9_drawn_72 rfl (Nat.le_of_ble_eq_true rfl) rfl (fun z72 M72 P72 h72 => ?_)
            obtain ⟨rfl, rfl, rfl⟩ := h72
            rw [show ((drw z k : Nat) : Int) % (tn (sT S) : Int) = ((drw z k % tn (sT S) : Nat) : Int) by simp]
            refine G_is8 hC dX9_drawn_75 rfl ?_
            refine G_al0 hC dX9_drawn_77 ?_
            refine G_getR hC fl_X9_29 (by first | assumption | rfl) (by omega) (by first | assumption | exact hGr _ _ _ rfl) dX9_drawn_78 ?_
            refine G_il7 hC dX9_drawn_81 ?_
            refine G_bipush hC dX9_drawn_83 (by decide) ?_
            refine G_idiv hC dX9_drawn_85 (by omega) (by omega) ?_
            refine G_callVI hC (c_X7_guestBy hGr hT8 i1 (by omega)) mv_X9_268 (by first | assumption | rfl) (by omega) (by decide) rfl (by decide) dX9_drawn_86 rfl (Nat.le_of_ble_eq_true rfl) rfl (fun z86 M86 P86 h86 => ?_)
            obtain ⟨rfl, rfl, rfl⟩ := h86
            rw [show ((drw z k : Nat) : Int) / 8 % (tn (sT S) : Int) = ((drw z k / 8 % tn (sT S) : Nat) : Int) by simp]
            refine G_is9 hC dX9_drawn_89 rfl ?_
            refine G_al0 hC dX9_drawn_91 ?_
            refine G_getR hC fl_X9_29 (by first | assumption | rfl) (by omega) (by first | assumption | exact hGr _ _ _ rfl) dX9_drawn_92 ?_
            refine G_il4 hC dX9_drawn_95 ?_
            refine G_il8 hC dX9_drawn_97 ?_
            refine G_il9 hC dX9_drawn_99 ?_
            refine G_callVI hC (c_X7_canBeAsked hGr hT8 i1 hs (by omega) (by omega)) mv_X9_182 (by first | assumption | rfl) (by omega) (by decide) rfl (by decide) dX9_drawn_101 rfl (Nat.le_of_ble_eq_true rfl) rfl (fun z101 M101 P101 h101 => ?_)
            obtain ⟨rfl, rfl, rfl⟩ := h101
            rw [canI_0 hcan]
            refine G_if_eq (tgt := 125) hC dX9_drawn_104 (by decide) (by omega) (fun c104 => ?_) (fun c104 => ?_)
            · refine G_inc6 hC dX9_drawn_125 rfl ?_
              refine G_goto (tgt := 52) hC dX9_drawn_128 (by decide) ?_
              exact ih (k + 1) _ s _ _ _ (by omega) (by omega) hs (by omega) he
            · exact absurd rfl c104
    by_cases hd1 : d = -1
    · refine G_il1 hC dX9_drawn_0 ?_
      refine G_if_lt (tgt := 35) hC dX9_drawn_1 (by decide) (by omega) (fun c1 => ?_) (fun c1 => ?_)
      · exact absurd c1 (by omega)
      · refine G_il1 hC dX9_drawn_4 ?_
        refine G_sipush hC dX9_drawn_5 (by decide) ?_
        refine G_icmp_gt (tgt := 35) hC dX9_drawn_8 (by decide) (by omega) (by omega) (fun c8 => ?_) (fun c8 => ?_)
        · exact absurd c8 (by omega)
        · refine G_il2 hC dX9_drawn_11 ?_
          refine G_iconst hC dX9_drawn_12 ?_
          refine G_icmp_lt (tgt := 35) hC dX9_drawn_13 (by decide) (by omega) (by omega) (fun c13 => ?_) (fun c13 => ?_)
          · exact absurd c13 (by omega)
          · refine G_il2 hC dX9_drawn_16 ?_
            refine G_bipush hC dX9_drawn_17 (by decide) ?_
            refine G_icmp_gt (tgt := 35) hC dX9_drawn_19 (by decide) (by omega) (by omega) (fun c19 => ?_) (fun c19 => ?_)
            · exact absurd c19 (by omega)
            · refine G_il3 hC dX9_drawn_22 ?_
              refine G_iconst hC dX9_drawn_23 ?_
              refine G_icmp_eq (tgt := 37) hC dX9_drawn_24 (by decide) (by omega) (by omega) (fun c24 => ?_) (fun c24 => ?_)
              · refine G_al0 hC dX9_drawn_37 ?_
                refine G_getR hC fl_X9_76 (by first | assumption | rfl) (by omega) (by first | assumption | exact hGr _ _ _ rfl) dX9_drawn_38 ?_
                refine G_getI hC fl_X9_137 (by first | assumption | rfl) (by omega) dX9_drawn_41 ?_
                rw [f1.1]
                refine G_is4 hC dX9_drawn_44 rfl ?_
                refine G_iconst hC dX9_drawn_46 ?_
                refine G_is5 hC dX9_drawn_47 rfl ?_
                refine G_iconst hC dX9_drawn_49 ?_
                refine G_is6 hC dX9_drawn_50 rfl ?_
                exact hlp n 0 _ ((sNow S).1, 0) _ _ _ (by omega) rfl hlo (by omega) rfl
              · exact absurd hd1 c24
    · have hd : isD S d := by rcases hv.2.2.2.2 with q | q; exact absurd q hd1; exact q
      refine G_il1 hC dX9_drawn_0 ?_
      refine G_if_lt (tgt := 35) hC dX9_drawn_1 (by decide) (by omega) (fun c1 => ?_) (fun c1 => ?_)
      · exact absurd c1 (by omega)
      · refine G_il1 hC dX9_drawn_4 ?_
        refine G_sipush hC dX9_drawn_5 (by decide) ?_
        refine G_icmp_gt (tgt := 35) hC dX9_drawn_8 (by decide) (by omega) (by omega) (fun c8 => ?_) (fun c8 => ?_)
        · exact absurd c8 (by omega)
        · refine G_il2 hC dX9_drawn_11 ?_
          refine G_iconst hC dX9_drawn_12 ?_
          refine G_icmp_lt (tgt := 35) hC dX9_drawn_13 (by decide) (by omega) (by omega) (fun c13 => ?_) (fun c13 => ?_)
          · exact absurd c13 (by omega)
          · refine G_il2 hC dX9_drawn_16 ?_
            refine G_bipush hC dX9_drawn_17 (by decide) ?_
            refine G_icmp_gt (tgt := 35) hC dX9_drawn_19 (by decide) (by omega) (by omega) (fun c19 => ?_) (fun c19 => ?_)
            · exact absurd c19 (by omega)
            · refine G_il3 hC dX9_drawn_22 ?_
              refine G_iconst hC dX9_drawn_23 ?_
              refine G_icmp_eq (tgt := 37) hC dX9_drawn_24 (by decide) (by omega) (by omega) (fun c24 => ?_) (fun c24 => ?_)
              · exact absurd c24 hd1
              · refine G_al0 hC dX9_drawn_27 ?_
                refine G_il3 hC dX9_drawn_28 ?_
                refine G_callVI hC (c_X9_isDish1 hI (by unfold i32r; omega) hd) mv_X9_171 (by first | assumption | rfl) (by omega) (by decide) rfl (by decide) dX9_drawn_29 rfl (Nat.le_of_ble_eq_true rfl) rfl (fun z29 M29 P29 h29 => ?_)
                obtain ⟨rfl, rfl, rfl⟩ := h29
                refine G_if_ne (tgt := 37) hC dX9_drawn_32 (by decide) (by omega) (fun c32 => ?_) (fun c32 => ?_)
                · refine G_al0 hC dX9_drawn_37 ?_
                  refine G_getR hC fl_X9_76 (by first | assumption | rfl) (by omega) (by first | assumption | exact hGr _ _ _ rfl) dX9_drawn_38 ?_
                  refine G_getI hC fl_X9_137 (by first | assumption | rfl) (by omega) dX9_drawn_41 ?_
                  rw [f1.1]
                  refine G_is4 hC dX9_drawn_44 rfl ?_
                  refine G_iconst hC dX9_drawn_46 ?_
                  refine G_is5 hC dX9_drawn_47 rfl ?_
                  refine G_iconst hC dX9_drawn_49 ?_
                  refine G_is6 hC dX9_drawn_50 rfl ?_
                  exact hlp n 0 _ ((sNow S).1, 0) _ _ _ (by omega) rfl hlo (by omega) rfl
                · exact absurd c32 (by omega)
  · by_cases hd : isD S d
    · refine G_il1 hC dX9_drawn_0 ?_
      refine G_if_lt (tgt := 35) hC dX9_drawn_1 (by decide) (by omega) (fun c1 => ?_) (fun c1 => ?_)
      · refine G_iconst hC dX9_drawn_35 ?_
        exact G_iret hC hQ dX9_drawn_36 ⟨_, rfl, by unfold drawnS; rw [if_neg hv], hI, eqx.refl, PX.refl⟩
      · refine G_il1 hC dX9_drawn_4 ?_
        refine G_sipush hC dX9_drawn_5 (by decide) ?_
        refine G_icmp_gt (tgt := 35) hC dX9_drawn_8 (by decide) (by omega) (by omega) (fun c8 => ?_) (fun c8 => ?_)
        · refine G_iconst hC dX9_drawn_35 ?_
          exact G_iret hC hQ dX9_drawn_36 ⟨_, rfl, by unfold drawnS; rw [if_neg hv], hI, eqx.refl, PX.refl⟩
        · refine G_il2 hC dX9_drawn_11 ?_
          refine G_iconst hC dX9_drawn_12 ?_
          refine G_icmp_lt (tgt := 35) hC dX9_drawn_13 (by decide) (by omega) (by omega) (fun c13 => ?_) (fun c13 => ?_)
          · refine G_iconst hC dX9_drawn_35 ?_
            exact G_iret hC hQ dX9_drawn_36 ⟨_, rfl, by unfold drawnS; rw [if_neg hv], hI, eqx.refl, PX.refl⟩
          · refine G_il2 hC dX9_drawn_16 ?_
            refine G_bipush hC dX9_drawn_17 (by decide) ?_
            refine G_icmp_gt (tgt := 35) hC dX9_drawn_19 (by decide) (by omega) (by omega) (fun c19 => ?_) (fun c19 => ?_)
            · refine G_iconst hC dX9_drawn_35 ?_
              exact G_iret hC hQ dX9_drawn_36 ⟨_, rfl, by unfold drawnS; rw [if_neg hv], hI, eqx.refl, PX.refl⟩
            · refine G_il3 hC dX9_drawn_22 ?_
              refine G_iconst hC dX9_drawn_23 ?_
              refine G_icmp_eq (tgt := 37) hC dX9_drawn_24 (by decide) (by omega) (by omega) (fun c24 => ?_) (fun c24 => ?_)
              · exact absurd ⟨by omega, by omega, by omega, by omega, Or.inl c24⟩ hv
              · refine G_al0 hC dX9_drawn_27 ?_
                refine G_il3 hC dX9_drawn_28 ?_
                refine G_callVI hC (c_X9_isDish1 hI (by unfold i32r; omega) hd) mv_X9_171 (by first | assumption | rfl) (by omega) (by decide) rfl (by decide) dX9_drawn_29 rfl (Nat.le_of_ble_eq_true rfl) rfl (fun z29 M29 P29 h29 => ?_)
                obtain ⟨rfl, rfl, rfl⟩ := h29
                refine G_if_ne (tgt := 37) hC dX9_drawn_32 (by decide) (by omega) (fun c32 => ?_) (fun c32 => ?_)
                · exact absurd ⟨by omega, by omega, by omega, by omega, Or.inr hd⟩ hv
                · refine G_iconst hC dX9_drawn_35 ?_
                  exact G_iret hC hQ dX9_drawn_36 ⟨_, rfl, by unfold drawnS; rw [if_neg hv], hI, eqx.refl, PX.refl⟩
    · refine G_il1 hC dX9_drawn_0 ?_
      refine G_if_lt (tgt := 35) hC dX9_drawn_1 (by decide) (by omega) (fun c1 => ?_) (fun c1 => ?_)
      · refine G_iconst hC dX9_drawn_35 ?_
        exact G_iret hC hQ dX9_drawn_36 ⟨_, rfl, by unfold drawnS; rw [if_neg hv], hI, eqx.refl, PX.refl⟩
      · refine G_il1 hC dX9_drawn_4 ?_
        refine G_sipush hC dX9_drawn_5 (by decide) ?_
        refine G_icmp_gt (tgt := 35) hC dX9_drawn_8 (by decide) (by omega) (by omega) (fun c8 => ?_) (fun c8 => ?_)
        · refine G_iconst hC dX9_drawn_35 ?_
          exact G_iret hC hQ dX9_drawn_36 ⟨_, rfl, by unfold drawnS; rw [if_neg hv], hI, eqx.refl, PX.refl⟩
        · refine G_il2 hC dX9_drawn_11 ?_
          refine G_iconst hC dX9_drawn_12 ?_
          refine G_icmp_lt (tgt := 35) hC dX9_drawn_13 (by decide) (by omega) (by omega) (fun c13 => ?_) (fun c13 => ?_)
          · refine G_iconst hC dX9_drawn_35 ?_
            exact G_iret hC hQ dX9_drawn_36 ⟨_, rfl, by unfold drawnS; rw [if_neg hv], hI, eqx.refl, PX.refl⟩
          · refine G_il2 hC dX9_drawn_16 ?_
            refine G_bipush hC dX9_drawn_17 (by decide) ?_
            refine G_icmp_gt (tgt := 35) hC dX9_drawn_19 (by decide) (by omega) (by omega) (fun c19 => ?_) (fun c19 => ?_)
            · refine G_iconst hC dX9_drawn_35 ?_
              exact G_iret hC hQ dX9_drawn_36 ⟨_, rfl, by unfold drawnS; rw [if_neg hv], hI, eqx.refl, PX.refl⟩
            · refine G_il3 hC dX9_drawn_22 ?_
              refine G_iconst hC dX9_drawn_23 ?_
              refine G_icmp_eq (tgt := 37) hC dX9_drawn_24 (by decide) (by omega) (by omega) (fun c24 => ?_) (fun c24 => ?_)
              · exact absurd ⟨by omega, by omega, by omega, by omega, Or.inl c24⟩ hv
              · refine G_al0 hC dX9_drawn_27 ?_
                refine G_il3 hC dX9_drawn_28 ?_
                refine G_callVI hC (c_X9_isDish0 hI (by unfold i32r; omega) hd) mv_X9_171 (by first | assumption | rfl) (by omega) (by decide) rfl (by decide) dX9_drawn_29 rfl (Nat.le_of_ble_eq_true rfl) rfl (fun z29 M29 P29 h29 => ?_)
                obtain ⟨rfl, rfl, rfl⟩ := h29
                refine G_if_ne (tgt := 37) hC dX9_drawn_32 (by decide) (by omega) (fun c32 => ?_) (fun c32 => ?_)
                · exact absurd rfl c32
                · refine G_iconst hC dX9_drawn_35 ?_
                  exact G_iret hC hQ dX9_drawn_36 ⟨_, rfl, by unfold drawnS; rw [if_neg hv], hI, eqx.refl, PX.refl⟩
