/-! the reference: laying, writing, looking -/
def TOK (S : AS) : Prop := ∀ g, g < 6 → tk (sT S) g ≤ 3 ∧ ∀ d, d < 6 → tw (sT S) g d ≤ 9
theorem bShl1 {d : Nat} (h : d < 8) : bShl 1 d = ((2 ^ d : Nat) : Int) := by
  have h2 : 2 ^ d ≤ 2 ^ 7 := Nat.pow_le_pow_right (by omega) (by omega)
  have := bShl_n (n := 1) (s := d) (by omega) (by omega)
  rw [Nat.one_mul] at this
  exact this
theorem hvI_nv {f : Nat → Nat} {g : Nat} (h : f g < 6 ∨ f g = 7) : hvI (nv (f g)) = (hbit f g : Int) := by
  unfold hvI nv hbit
  by_cases z : f g = 7
  · rw [if_pos z, if_pos rfl, if_pos z]; rfl
  · rw [if_neg z, if_neg (by omega), if_neg z, bShl1 (by omega)]
def lmQ (c : Nat) (M : Mem) (P : PMem) (x : (Nat → Nat) × Nat) : Int → Mem → PMem → Prop := fun r M' P' => P = P' ∧ eqx mdX M M' ∧ ((r = -2 ∧ mK M M' ∧ ((∃ p, prsF x.1 x.2 301 0 ts0 = .inl p) ∨ ∃ Q, prsF x.1 x.2 301 0 ts0 = .inr Q ∧ qn Q < 2)) ∨ ∃ Q, prsF x.1 x.2 301 0 ts0 = .inr Q ∧ 2 ≤ qn Q ∧ r = (qn Q : Int) ∧ ∀ S', layTo x Q S' → MIv c M' P S')
theorem lay_M {c : Nat} {M M1 : Mem} {P : PMem} {x : (Nat → Nat) × Nat} {Q : TS} (hGr : GrM P) (hT : TxM M x.1 x.2) (hE : M 45 21 = (x.2 : Int)) (hm : qMk c M) (hQ : MsR M Q) (hL : LaI (lfM M (qr Q)) M1 (qn Q) (6 * qn Q)) : (∀ S', layTo x Q S' → MIv c (upM (upM (upM M1 45 11 0) 45 12 0) 45 16 0) P S') ∧ eqx mdX M (upM (upM (upM M1 45 11 0) 45 12 0) 45 16 0) ∧ upM (upM (upM M1 45 11 0) 45 12 0) 45 16 0 45 0 = (qn Q : Int) := by
  obtain ⟨⟨u1, u2, u3, u4, u5⟩, ⟨M0, u6⟩, u7⟩ := hQ
  obtain ⟨l1, l2, l3⟩ := hL
  have hlie : ∀ i, qf Q i < 6 ∨ qf Q i = 7 := u6.2.2.2.2.2.2.2.2.2.2.2.2.1
  have eo : ∀ a, a ≠ 45 → ∀ b, upM (upM (upM M1 45 11 0) 45 12 0) 45 16 0 a b = M1 a b := fun a ha b => by rw [upM_ne ha, upM_ne ha, upM_ne ha]
  have e45 : ∀ b, b ≠ 11 → b ≠ 12 → b ≠ 16 → upM (upM (upM M1 45 11 0) 45 12 0) 45 16 0 45 b = lfM M (qr Q) 45 b := fun b h1 h2 h3 => by rw [upM_nej h3, upM_nej h2, upM_nej h1, l3 45 (by omega)]
  have ef : ∀ b, 5 ≤ b → lfM M (qr Q) 45 b = M 45 b := fun b hb => by
    unfold lfM; rw [upM_nej (by omega), upM_nej (by omega), upM_nej (by omega), upM_nej (by omega), upM_nej (by omega)]
  have f0 : lfM M (qr Q) 45 0 = (qn Q : Int) := by unfold lfM; rw [upM_nej (by omega), upM_nej (by omega), upM_nej (by omega), upM_nej (by omega), upM_self]; exact u1
  have f1 : lfM M (qr Q) 45 1 = (qd Q : Int) := by unfold lfM; rw [upM_nej (by omega), upM_nej (by omega), upM_nej (by omega), upM_self]; exact u2
  have f2 : lfM M (qr Q) 45 2 = (qr Q : Int) := by unfold lfM; rw [upM_nej (by omega), upM_nej (by omega), upM_self]
  have f3 : lfM M (qr Q) 45 3 = (qs Q : Int) := by unfold lfM; rw [upM_nej (by omega), upM_self]; exact u4
  have f4 : lfM M (qr Q) 45 4 = (qc Q : Int) := by unfold lfM; rw [upM_self]; exact u5
  refine ⟨fun S' hS' => ?_, fun a ha b => ?_, by rw [e45 _ (by omega) (by omega) (by omega)]; exact f0⟩
  · obtain ⟨a1, a2, a3, a4, a5, a6, a7, a8, a9, a10, a11⟩ := hS'
    refine ⟨hGr, ⟨⟨by rw [e45 _ (by omega) (by omega) (by omega), a2]; exact f0, by rw [e45 _ (by omega) (by omega) (by omega), a5]; exact f1, by rw [e45 _ (by omega) (by omega) (by omega), a3]; exact f2, by rw [e45 _ (by omega) (by omega) (by omega), a6]; exact f3, by rw [e45 _ (by omega) (by omega) (by omega), a7]; exact f4⟩, fun g hg => ?_⟩, ⟨fun g hg => ?_, ?_⟩, ⟨?_, fun k y hk => ?_⟩, ⟨?_, fun k y hk => ?_⟩, ⟨fun k hk => ?_, ?_⟩, ?_⟩
    · rw [a2] at hg
      obtain ⟨b1, b2, b3, b4, b5⟩ := l1 g hg
      obtain ⟨c1, c2, c3, c4⟩ := u7 g hg
      obtain ⟨d1, d2, d3⟩ := a4 g hg
      rw [eo 46 (by omega), eo 47 (by omega), eo 49 (by omega), b1, b2, b3, lfM_o (by omega), lfM_o (by omega), lfM_o (by omega), d1, d2, a8]
      refine ⟨c1, c2, c3, fun d hd => ?_⟩
      rw [eo 48 (by omega), l2 _ (by omega), lfM_o (by omega), d3 d hd]
      exact c4 d hd
    · rw [a2] at hg
      obtain ⟨b1, b2, b3, b4, b5⟩ := l1 g hg
      obtain ⟨c1, c2, c3, c4⟩ := u7 g hg
      rw [eo 50 (by omega), eo 51 (by omega), b4, b5, lfM_o (by omega), c3, a9]
      exact ⟨rfl, hvI_nv (hlie g)⟩
    · rw [upM_nej (by omega), upM_nej (by omega), upM_self, a9]; rfl
    · rw [upM_nej (by omega), upM_self, a10]; rfl
    · rw [a10] at hk; simp at hk
    · rw [upM_self, a11]; rfl
    · rw [a11] at hk; simp at hk
    · unfold sTx at *
      rw [eo 58 (by omega), l3 58 (by omega), lfM_o (by omega), a1]
      exact hT k (by rw [← a1]; exact hk)
    · rw [e45 _ (by omega) (by omega) (by omega), ef _ (by omega)]
      unfold sLen
      rw [a1]; exact hE
    · exact qMk_x hm (by rw [e45 _ (by omega) (by omega) (by omega), ef _ (by omega)]) (fun b => by rw [eo 67 (by omega), l3 67 (by omega), lfM_o (by omega)])
  · unfold mdX at ha
    rw [eo a (by omega), l3 a (by omega), lfM_o (by omega)]
set_option maxHeartbeats 4000000 in
set_option maxRecDepth 100000 in
theorem c_X10_lay {l : Launch} {c : Nat} {x : (Nat → Nat) × Nat} {M : Mem} {P : PMem} (hGr : GrM P) (hT : TxM M x.1 x.2) (hE : M 45 21 = (x.2 : Int)) (hlen : x.2 ≤ 300) (hm : qMk c M) : CtI l yX10_lay cX10_lay 1 (some .int) 5 113 77 [vR 45] M P (lmQ c M P x) := by
  refine Ct_of (own := RX10) (L := [vR 45]) (by decide) rfl rfl (Nat.le_of_ble_eq_true rfl) (fun X Y hl hC hQ => ?_)
  refine G_al0 hC dX10_lay_0 ?_
  refine G_callVI hC (c_X10_findFault hGr hT hE hlen) mv_X10_170 (by first | assumption | rfl) (by omega) (by decide) rfl (by decide) dX10_lay_1 rfl (Nat.le_of_ble_eq_true rfl) rfl (fun z1 M1 P1 h1 => ?_)
  skip
  obtain ⟨rfl, r1, r3⟩ := h1
  have hcx : eqx mdX M M1 := r1.1.mono (fun a ha => by unfold sMs at ha; unfold mdX; omega)
  rcases r3 with ⟨p, q1, rfl, q3⟩ | ⟨Q, q1, rfl, q2⟩
  · refine G_bipush hC dX10_lay_4 (by decide) ?_
    refine G_icmp_ne (tgt := 17) hC dX10_lay_6 (by decide) (by omega) (by omega) (fun c6 => ?_) (fun c6 => ?_)
    · refine G_bipush hC dX10_lay_17 (by decide) ?_
      exact G_iret hC hQ dX10_lay_19 ⟨_, rfl, rfl, hcx, Or.inl ⟨rfl, r1, Or.inl ⟨p, q1⟩⟩⟩
    · exact absurd c6 (by omega)
  · obtain ⟨⟨u1, u2, u3, u4, u5⟩, ⟨M0, u6⟩, u7⟩ := id q2
    have hQ6 : qn Q ≤ 6 := u6.2.2.2.2.2.2.1
    have hr1 : qr Q ≤ 1 := u6.2.2.2.2.2.2.2.2.2.1
    have hlie : ∀ i, qf Q i < 6 ∨ qf Q i = 7 := u6.2.2.2.2.2.2.2.2.2.2.2.2.1
    by_cases hn2 : qn Q < 2
    · refine G_bipush hC dX10_lay_4 (by decide) ?_
      refine G_icmp_ne (tgt := 17) hC dX10_lay_6 (by decide) (by omega) (by omega) (fun c6 => ?_) (fun c6 => ?_)
      · exact absurd rfl c6
      · refine G_al0 hC dX10_lay_9 ?_
        refine G_getI hC fl_X10_109 (by first | assumption | rfl) (by omega) dX10_lay_10 ?_
        rw [u1]
        refine G_iconst hC dX10_lay_13 ?_
        refine G_icmp_ge (tgt := 20) hC dX10_lay_14 (by decide) (by omega) (by omega) (fun c14 => ?_) (fun c14 => ?_)
        · exact absurd c14 (by omega)
        · refine G_bipush hC dX10_lay_17 (by decide) ?_
          exact G_iret hC hQ dX10_lay_19 ⟨_, rfl, rfl, hcx, Or.inl ⟨rfl, r1, Or.inr ⟨Q, q1, hn2⟩⟩⟩
    · refine G_bipush hC dX10_lay_4 (by decide) ?_
      refine G_icmp_ne (tgt := 17) hC dX10_lay_6 (by decide) (by omega) (by omega) (fun c6 => ?_) (fun c6 => ?_)
      · exact absurd rfl c6
      · refine G_al0 hC dX10_lay_9 ?_
        refine G_getI hC fl_X10_109 (by first | assumption | rfl) (by omega) dX10_lay_10 ?_
        rw [u1]
        refine G_iconst hC dX10_lay_13 ?_
        refine G_icmp_ge (tgt := 20) hC dX10_lay_14 (by decide) (by omega) (by omega) (fun c14 => ?_) (fun c14 => ?_)
        · refine G_al0 hC dX10_lay_20 ?_
          refine G_callVV hC (c_X10_lays (n := qn Q) (r := qr Q) hGr u1 hQ6 u3 (by omega) (fun g hg => by rw [(u7 g hg).2.2.1]; exact nv_r (by rcases hlie g with q | q <;> omega))) mv_X10_113 (by first | assumption | rfl) (by omega) (by decide) rfl (by decide) dX10_lay_21 rfl (Nat.le_of_ble_eq_true rfl) rfl (fun M21 P21 h21 => ?_)
          obtain ⟨rfl, Mx, q4, rfl⟩ := h21
          obtain ⟨k1, k2, k3⟩ := lay_M (c := c) (x := x) hGr (TxM_K r1 hT) (by rw [r1.2 21 (by omega)]; exact hE) (qMk_x hm (r1.2 37 (by omega)) (r1.1 67 (by unfold sMs; omega))) q2 q4
          refine G_al0 hC dX10_lay_24 ?_
          refine G_getI hC fl_X10_116 (by first | assumption | rfl) (by omega) dX10_lay_25 ?_
          rw [k3]
          exact G_iret hC hQ dX10_lay_28 ⟨_, rfl, rfl, hcx.trans k2, Or.inr ⟨Q, q1, by omega, rfl, k1⟩⟩
        · exact absurd c14 (by omega)
theorem MIv_tx {c : Nat} {M M' : Mem} {P : PMem} {S : AS} {x : (Nat → Nat) × Nat} (h : MIv c M P S) (e : ∀ a, a ≠ 45 → a ≠ 58 → ∀ b, M' a b = M a b) (e45 : ∀ b, b ≠ 21 → M' 45 b = M 45 b) (hT : TxM M' x.1 x.2) (hE : M' 45 21 = (x.2 : Int)) : MIv c M' P (x, S.2) ∧ eqx mdX M M' := by
  obtain ⟨h1, ⟨⟨a0, a1, a2, a3, a4⟩, a5⟩, ⟨b1, b2⟩, h4, h5, -, h7⟩ := h
  refine ⟨⟨h1, ⟨⟨by rw [e45 0 (by omega)]; exact a0, by rw [e45 1 (by omega)]; exact a1, by rw [e45 2 (by omega)]; exact a2, by rw [e45 3 (by omega)]; exact a3, by rw [e45 4 (by omega)]; exact a4⟩, fun g hg => ?_⟩, ⟨fun g hg => ?_, by rw [e45 11 (by omega)]; exact b2⟩, StM_x h4 (fun a ha b => e a (by omega) (by omega) b) (e45 12 (by omega)), StM_x h5 (fun a ha b => e a (by omega) (by omega) b) (e45 16 (by omega)), ⟨hT, hE⟩, qMk_x h7 (e45 37 (by omega)) (e 67 (by omega) (by omega))⟩, fun a ha b => e a (fun q => ha (by unfold mdX; omega)) (fun q => ha (by unfold mdX; omega)) b⟩
  · rw [e 46 (by omega) (by omega), e 47 (by omega) (by omega), e 49 (by omega) (by omega)]
    exact ⟨(a5 g hg).1, (a5 g hg).2.1, (a5 g hg).2.2.1, fun d hd => by rw [e 48 (by omega) (by omega)]; exact (a5 g hg).2.2.2 d hd⟩
  · rw [e 50 (by omega) (by omega), e 51 (by omega) (by omega)]; exact b1 g hg
def mR (c : Nat) (M : Mem) (P : PMem) (S' : AS) (r0 : Int) : Int → Mem → PMem → Prop := fun r M' P' => P = P' ∧ r = r0 ∧ MIv c M' P S' ∧ eqx mdX M M'
set_option maxHeartbeats 4000000 in
set_option maxRecDepth 100000 in
theorem c_X10_write {l : Launch} {c : Nat} {S : AS} {n v : Int} {M : Mem} {P : PMem} (hS : SOK c S) (hI : MIv c M P S) (hi : i32r n) : CtI l yX10_write cX10_write 5 (some .int) 1 22 77 [vR 45, vI n, vL v] M P (mR c M P (writeS S n v).2 (writeS S n v).1) := by
  refine Ct_of (own := RX10) (L := [vR 45, vI n, vL v, vX 1, vX 1]) (by decide) rfl rfl (Nat.le_of_ble_eq_true rfl) (fun X Y hl hC hQ => ?_)
  obtain ⟨hGr, ⟨⟨g0, g1, g2, g3, g4⟩, g5⟩, ⟨g6, g7⟩, g8, g9, ⟨g10, g11⟩, g12⟩ := id hI
  obtain ⟨s1, ⟨s2, s3, s4, s5, s6, s7, s8⟩, ⟨s9, s10, s11, s12⟩, s13, s14, s15, s16, s17, s18⟩ := id hS
  obtain ⟨m1, m2, m3, m4⟩ := id s14
  unfold i32r at *
  by_cases hn : 1 ≤ n ∧ n ≤ 8
  · by_cases hf : (sLen S : Int) + n > 300
    · refine G_il1 hC dX10_write_0 ?_
      refine G_iconst hC dX10_write_1 ?_
      refine G_bipush hC dX10_write_2 (by decide) ?_
      refine G_callSI hC (c_in1 (by unfold i32r; omega) (by unfold i32r; omega) (by unfold i32r; omega) (by omega)) ms_X10_119 (by decide) rfl (by decide) dX10_write_4 rfl (Nat.le_of_ble_eq_true rfl) rfl (fun z4 M4 P4 h4 => ?_)
      obtain ⟨rfl, rfl, rfl⟩ := h4
      refine G_if_ne (tgt := 12) hC dX10_write_7 (by decide) (by omega) (fun c7 => ?_) (fun c7 => ?_)
      · refine G_al0 hC dX10_write_12 ?_
        refine G_getI hC fl_X10_126 (by first | assumption | rfl) (by omega) dX10_write_13 ?_
        rw [g11]
        refine G_il1 hC dX10_write_16 ?_
        refine G_iadd hC dX10_write_17 ?_
        refine G_sipush hC dX10_write_18 (by decide) ?_
        refine G_icmp_le (tgt := 27) hC dX10_write_21 (by decide) (by omega) (by omega) (fun c21 => ?_) (fun c21 => ?_)
        · exact absurd c21 (by omega)
        · refine G_bipush hC dX10_write_24 (by decide) ?_
          exact G_iret hC hQ dX10_write_26 ⟨_, rfl, rfl, by unfold writeS; rw [if_neg (fun z => z hn), if_pos hf], by unfold writeS; rw [if_neg (fun z => z hn), if_pos hf]; exact hI, eqx.refl⟩
      · exact absurd c7 (by omega)
    · obtain ⟨e, rfl⟩ : ∃ e : Nat, n = (e : Int) := ⟨n.toNat, by omega⟩
      have hlp : ∀ (c2 : Nat) (kv : Int) (x : (Nat → Nat) × Nat) (M1 : Mem), kv = (c2 : Int) - 1 → c2 ≤ 8 → TxM M1 x.1 x.2 → M1 45 21 = (x.2 : Int) → x.2 + c2 = sLen S + e → (∀ a, a ≠ 45 → a ≠ 58 → ∀ b, M1 a b = M a b) → (∀ b, b ≠ 21 → M1 45 b = M 45 b) → wrT v c2 x = wrT v e S.1 → G X Y 32 [vR 45, vI e, vL v, vX 1, vI kv] [] M1 P := by
        intro c2
        induction c2 with
        | zero =>
          intro kv x M1 e1 h8 hT1 hL1 hlen hx hx5 he
          subst e1
          have he' : x = wrT v e S.1 := he
          have hxl : x.2 = sLen S + e := by omega
          obtain ⟨z1, z2⟩ := MIv_tx (x := wrT v e S.1) hI hx hx5 (by rw [← he']; exact hT1) (by rw [← he']; exact hL1)
          refine G_il4 hC dX10_write_32 ?_
          refine G_if_lt (tgt := 74) hC dX10_write_34 (by decide) (by omega) (fun c34 => ?_) (fun c34 => ?_)
          · refine G_al0 hC dX10_write_74 ?_
            refine G_getI hC fl_X10_126 (by first | assumption | rfl) (by omega) dX10_write_75 ?_
            rw [hL1, hxl]
            exact G_iret hC hQ dX10_write_78 ⟨_, rfl, rfl, by unfold writeS; rw [if_neg (fun z => z hn), if_neg hf]; show _ = (sLen S : Int) + e; omega, by unfold writeS; rw [if_neg (fun z => z hn), if_neg hf]; simp only [Int.toNat_natCast]; exact z1, z2⟩
          · exact absurd c34 (by omega)
        | succ c2 ih =>
          intro kv x M1 e1 h8 hT1 hL1 hlen hx hx5 he
          subst e1
          have hby := byN_lt (v := v) (k := c2)
          refine G_il4 hC dX10_write_32 ?_
          refine G_if_lt (tgt := 74) hC dX10_write_34 (by decide) (by omega) (fun c34 => ?_) (fun c34 => ?_)
          · exact absurd c34 (by omega)
          · refine G_al0 hC dX10_write_37 ?_
            refine G_getR hC fl_X10_46 (by first | assumption | rfl) (by omega) (by first | assumption | exact hGr _ _ rfl) dX10_write_38 ?_
            refine G_al0 hC dX10_write_41 ?_
            refine G_getI hC fl_X10_126 (by first | assumption | rfl) (by omega) dX10_write_42 ?_
            rw [hL1]
            refine G_ll2 hC dX10_write_45 ?_
            refine G_bipush hC dX10_write_46 (by decide) ?_
            refine G_il4 hC dX10_write_48 ?_
            refine G_imul hC dX10_write_50 ?_
            refine G_lshr hC dX10_write_51 ?_
            refine G_ldc2 (z := 255) hC kl_X10_129 (by decide) dX10_write_52 ?_
            refine G_land hC dX10_write_55 ?_
            rw [lAnd255, show (8 * (((c2 + 1 : Nat) : Int) - 1)) = 8 * (c2 : Int) by omega, show lShr v (8 * (c2 : Int)) % 256 = ((byN v c2 : Nat) : Int) by unfold byN; omega]
            refine G_l2i hC dX10_write_56 ?_
            refine G_iastoreN (n := x.2) hC (by first | assumption | rfl) (by omega) (by omega) (by omega) dX10_write_57 ?_
            refine G_al0 hC dX10_write_58 ?_
            refine G_dup hC dX10_write_59 rfl ?_
            refine G_getI hC fl_X10_126 (by first | assumption | rfl) (by omega) dX10_write_60 ?_
            rw [upM_ne (by omega), hL1]
            refine G_iconst hC dX10_write_63 ?_
            refine G_iadd hC dX10_write_64 ?_
            refine G_putI hC fl_X10_126 (by first | assumption | rfl) (by omega) dX10_write_65 ?_
            refine G_inc4 hC dX10_write_68 rfl ?_
            refine G_goto (tgt := 32) hC dX10_write_71 (by decide) ?_
            exact ih _ (ud x.1 x.2 (byN v c2), x.2 + 1) _ (by omega) (by omega) (fun k hk => by
              have hk' : k < x.2 + 1 := hk
              rw [upM_ne (by omega)]
              unfold upM
              show (if _ then _ else _) = ((ud x.1 x.2 (byN v c2) k : Nat) : Int) ∧ ud x.1 x.2 (byN v c2) k < 256
              unfold ud
              by_cases q : k = x.2
              · rw [if_pos ⟨rfl, q⟩, if_pos q]; exact ⟨rfl, hby⟩
              · rw [if_neg (fun z => q z.2), if_neg q]; exact hT1 k (by omega)) (by rw [upM_self]; show _ = ((x.2 + 1 : Nat) : Int); omega) (by show x.2 + 1 + c2 = _; omega) (fun a h1 h2 b => by rw [upM_ne h1, upM_ne h2]; exact hx a h1 h2 b) (fun b hb => by rw [upM_nej hb, upM_ne (by omega)]; exact hx5 b hb) he
      refine G_il1 hC dX10_write_0 ?_
      refine G_iconst hC dX10_write_1 ?_
      refine G_bipush hC dX10_write_2 (by decide) ?_
      refine G_callSI hC (c_in1 (by unfold i32r; omega) (by unfold i32r; omega) (by unfold i32r; omega) (by omega)) ms_X10_119 (by decide) rfl (by decide) dX10_write_4 rfl (Nat.le_of_ble_eq_true rfl) rfl (fun z4 M4 P4 h4 => ?_)
      obtain ⟨rfl, rfl, rfl⟩ := h4
      refine G_if_ne (tgt := 12) hC dX10_write_7 (by decide) (by omega) (fun c7 => ?_) (fun c7 => ?_)
      · refine G_al0 hC dX10_write_12 ?_
        refine G_getI hC fl_X10_126 (by first | assumption | rfl) (by omega) dX10_write_13 ?_
        rw [g11]
        refine G_il1 hC dX10_write_16 ?_
        refine G_iadd hC dX10_write_17 ?_
        refine G_sipush hC dX10_write_18 (by decide) ?_
        refine G_icmp_le (tgt := 27) hC dX10_write_21 (by decide) (by omega) (by omega) (fun c21 => ?_) (fun c21 => ?_)
        · refine G_il1 hC dX10_write_27 ?_
          refine G_iconst hC dX10_write_28 ?_
          refine G_isub hC dX10_write_29 ?_
          refine G_is4 hC dX10_write_30 rfl ?_
          exact hlp e _ S.1 M (by omega) (by omega) g10 g11 rfl (fun _ _ _ _ => rfl) (fun _ _ => rfl) rfl
        · exact absurd c21 (by omega)
      · exact absurd c7 (by omega)
  · refine G_il1 hC dX10_write_0 ?_
    refine G_iconst hC dX10_write_1 ?_
    refine G_bipush hC dX10_write_2 (by decide) ?_
    refine G_callSI hC (c_in0 (by unfold i32r; omega) (by unfold i32r; omega) (by unfold i32r; omega) hn) ms_X10_119 (by decide) rfl (by decide) dX10_write_4 rfl (Nat.le_of_ble_eq_true rfl) rfl (fun z4 M4 P4 h4 => ?_)
    obtain ⟨rfl, rfl, rfl⟩ := h4
    refine G_if_ne (tgt := 12) hC dX10_write_7 (by decide) (by omega) (fun c7 => ?_) (fun c7 => ?_)
    · exact absurd rfl c7
    · refine G_iconst hC dX10_write_10 ?_
      exact G_iret hC hQ dX10_write_11 ⟨_, rfl, rfl, by unfold writeS; rw [if_pos hn], by unfold writeS; rw [if_pos hn]; exact hI, eqx.refl⟩
set_option maxHeartbeats 4000000 in
set_option maxRecDepth 100000 in
theorem c_X10_wipe {l : Launch} {c : Nat} {S : AS} {M : Mem} {P : PMem} (hS : SOK c S) (hI : MIv c M P S)  : CtI l yX10_wipe cX10_wipe 2 (some .int) 0 0 77 [vR 45] M P (mR c M P ((sTx S, 0), S.2) (sLen S)) := by
  refine Ct_of (own := RX10) (L := [vR 45, vX 1]) (by decide) rfl rfl (Nat.le_of_ble_eq_true rfl) (fun X Y hl hC hQ => ?_)
  obtain ⟨hGr, ⟨⟨g0, g1, g2, g3, g4⟩, g5⟩, ⟨g6, g7⟩, g8, g9, ⟨g10, g11⟩, g12⟩ := id hI
  obtain ⟨s1, ⟨s2, s3, s4, s5, s6, s7, s8⟩, ⟨s9, s10, s11, s12⟩, s13, s14, s15, s16, s17, s18⟩ := id hS
  obtain ⟨m1, m2, m3, m4⟩ := id s14
  obtain ⟨z1, z2⟩ := MIv_tx (M' := upM M 45 21 0) (x := (sTx S, 0)) hI (fun a h1 h2 b => upM_ne h1 b) (fun b hb => upM_nej hb 45) (fun k hk => by have : k < 0 := hk; omega) (by rw [upM_self]; rfl)
  refine G_al0 hC dX10_wipe_0 ?_
  refine G_getI hC fl_X10_126 (by first | assumption | rfl) (by omega) dX10_wipe_1 ?_
  rw [g11]
  refine G_is1 hC dX10_wipe_4 rfl ?_
  refine G_al0 hC dX10_wipe_5 ?_
  refine G_iconst hC dX10_wipe_6 ?_
  refine G_putI hC fl_X10_126 (by first | assumption | rfl) (by omega) dX10_wipe_7 ?_
  refine G_il1 hC dX10_wipe_10 ?_
  exact G_iret hC hQ dX10_wipe_11 ⟨_, rfl, rfl, rfl, z1, z2⟩
set_option maxHeartbeats 4000000 in
set_option maxRecDepth 100000 in
theorem c_X10_guest {l : Launch} {c : Nat} {S : AS} {i k : Int} {M : Mem} {P : PMem} (hS : SOK c S) (hI : MIv c M P S) (hi : i32r i) (hk0 : i32r k) : CtI l yX10_guest cX10_guest 3 (some .int) 2 43 77 [vR 45, vI i, vI k] M P (mR c M P S (guestS S i k)) := by
  refine Ct_of (own := RX10) (L := [vR 45, vI i, vI k]) (by decide) rfl rfl (Nat.le_of_ble_eq_true rfl) (fun X Y hl hC hQ => ?_)
  obtain ⟨hGr, ⟨⟨g0, g1, g2, g3, g4⟩, g5⟩, ⟨g6, g7⟩, g8, g9, ⟨g10, g11⟩, g12⟩ := id hI
  obtain ⟨s1, ⟨s2, s3, s4, s5, s6, s7, s8⟩, ⟨s9, s10, s11, s12⟩, s13, s14, s15, s16, s17, s18⟩ := id hS
  obtain ⟨m1, m2, m3, m4⟩ := id s14
  unfold i32r at *
  by_cases hg : isG S i
  · obtain ⟨g, rfl⟩ : ∃ g : Nat, i = (g : Int) := ⟨i.toNat, by have := hg.1; omega⟩
    have hg2 := hg.2
    obtain ⟨a1, a2, a3, a4⟩ := g5 g (by omega)
    obtain ⟨b1, b2⟩ := g6 g (by omega)
    have hnr := nv_r (d := (sNow S).1 g) (by rcases m1 g with q | q <;> omega)
    have hdn : dnF (sNow S).1 g = if nv ((sNow S).1 g) = -1 then -4 else nv ((sNow S).1 g) := by
      unfold dnF nv
      by_cases z : (sNow S).1 g = 7
      · rw [if_pos z, if_pos z, if_pos rfl]
      · rw [if_neg z, if_neg z, if_neg (by omega)]
    by_cases hk : 0 ≤ k ∧ k ≤ 3
    · refine G_al0 hC dX10_guest_0 ?_
      refine G_il1 hC dX10_guest_1 ?_
      refine G_callVI hC (c_X10_isGuest1 hS hI (by unfold i32r; omega) hg) mv_X10_192 (by first | assumption | rfl) (by omega) (by decide) rfl (by decide) dX10_guest_2 rfl (Nat.le_of_ble_eq_true rfl) rfl (fun z2 M2 P2 h2 => ?_)
      obtain ⟨rfl, rfl, rfl⟩ := h2
      refine G_if_eq (tgt := 17) hC dX10_guest_5 (by decide) (by omega) (fun c5 => ?_) (fun c5 => ?_)
      · exact absurd c5 (by omega)
      · refine G_il2 hC dX10_guest_8 ?_
        refine G_iconst hC dX10_guest_9 ?_
        refine G_iconst hC dX10_guest_10 ?_
        refine G_callSI hC (c_in1 (by unfold i32r; omega) (by unfold i32r; omega) (by unfold i32r; omega) hk) ms_X10_119 (by decide) rfl (by decide) dX10_guest_11 rfl (Nat.le_of_ble_eq_true rfl) rfl (fun z11 M11 P11 h11 => ?_)
        obtain ⟨rfl, rfl, rfl⟩ := h11
        refine G_if_ne (tgt := 19) hC dX10_guest_14 (by decide) (by omega) (fun c14 => ?_) (fun c14 => ?_)
        · refine G_il2 hC dX10_guest_19 ?_
          refine G_if_ne (tgt := 32) hC dX10_guest_20 (by decide) (by omega) (fun c20 => ?_) (fun c20 => ?_)
          · refine G_il2 hC dX10_guest_32 ?_
            refine G_iconst hC dX10_guest_33 ?_
            refine G_icmp_ne (tgt := 61) hC dX10_guest_34 (by decide) (by omega) (by omega) (fun c34 => ?_) (fun c34 => ?_)
            · refine G_il2 hC dX10_guest_61 ?_
              refine G_iconst hC dX10_guest_62 ?_
              refine G_icmp_ne (tgt := 75) hC dX10_guest_63 (by decide) (by omega) (by omega) (fun c63 => ?_) (fun c63 => ?_)
              · refine G_al0 hC dX10_guest_75 ?_
                refine G_getR hC fl_X10_25 (by first | assumption | rfl) (by omega) (by first | assumption | exact hGr _ _ rfl) dX10_guest_76 ?_
                refine G_il1 hC dX10_guest_79 ?_
                refine G_ialoadN (n := g) hC (by first | assumption | rfl) (by omega) (by omega) (by omega) dX10_guest_80 ?_
                exact G_iret hC hQ dX10_guest_81 ⟨_, rfl, rfl, by
  unfold guestS
  rw [if_pos hg]
  simp only [Int.toNat_natCast]
  first
    | (rw [if_pos (by omega)]; done)
    | (rw [if_neg (by omega), if_pos (by omega), hdn, if_pos (by omega)]; done)
    | (rw [if_neg (by omega), if_pos (by omega), hdn, if_neg (by omega)]; done)
    | (rw [if_neg (by omega), if_neg (by omega), if_pos (by omega)]; done)
    | (rw [if_neg (by omega), if_neg (by omega), if_neg (by omega), if_pos (by omega)]; exact b2), hI, eqx.refl⟩
              · refine G_al0 hC dX10_guest_66 ?_
                refine G_getR hC fl_X10_13 (by first | assumption | rfl) (by omega) (by first | assumption | exact hGr _ _ rfl) dX10_guest_67 ?_
                refine G_il1 hC dX10_guest_70 ?_
                refine G_ialoadN (n := g) hC (by first | assumption | rfl) (by omega) (by omega) (by omega) dX10_guest_71 ?_
                rw [a2]
                refine G_goto (tgt := 81) hC dX10_guest_72 (by decide) ?_
                exact G_iret hC hQ dX10_guest_81 ⟨_, rfl, rfl, by
  unfold guestS
  rw [if_pos hg]
  simp only [Int.toNat_natCast]
  first
    | (rw [if_pos (by omega)]; done)
    | (rw [if_neg (by omega), if_pos (by omega), hdn, if_pos (by omega)]; done)
    | (rw [if_neg (by omega), if_pos (by omega), hdn, if_neg (by omega)]; done)
    | (rw [if_neg (by omega), if_neg (by omega), if_pos (by omega)]; done)
    | (rw [if_neg (by omega), if_neg (by omega), if_neg (by omega), if_pos (by omega)]; exact b2), hI, eqx.refl⟩
            · refine G_al0 hC dX10_guest_37 ?_
              refine G_getR hC fl_X10_22 (by first | assumption | rfl) (by omega) (by first | assumption | exact hGr _ _ rfl) dX10_guest_38 ?_
              refine G_il1 hC dX10_guest_41 ?_
              refine G_ialoadN (n := g) hC (by first | assumption | rfl) (by omega) (by omega) (by omega) dX10_guest_42 ?_
              rw [b1]
              refine G_iconst hC dX10_guest_43 ?_
              refine G_icmp_ne (tgt := 52) hC dX10_guest_44 (by decide) (by omega) (by omega) (fun c44 => ?_) (fun c44 => ?_)
              · refine G_al0 hC dX10_guest_52 ?_
                refine G_getR hC fl_X10_22 (by first | assumption | rfl) (by omega) (by first | assumption | exact hGr _ _ rfl) dX10_guest_53 ?_
                refine G_il1 hC dX10_guest_56 ?_
                refine G_ialoadN (n := g) hC (by first | assumption | rfl) (by omega) (by omega) (by omega) dX10_guest_57 ?_
                rw [b1]
                refine G_goto (tgt := 81) hC dX10_guest_58 (by decide) ?_
                exact G_iret hC hQ dX10_guest_81 ⟨_, rfl, rfl, by
  unfold guestS
  rw [if_pos hg]
  simp only [Int.toNat_natCast]
  first
    | (rw [if_pos (by omega)]; done)
    | (rw [if_neg (by omega), if_pos (by omega), hdn, if_pos (by omega)]; done)
    | (rw [if_neg (by omega), if_pos (by omega), hdn, if_neg (by omega)]; done)
    | (rw [if_neg (by omega), if_neg (by omega), if_pos (by omega)]; done)
    | (rw [if_neg (by omega), if_neg (by omega), if_neg (by omega), if_pos (by omega)]; exact b2), hI, eqx.refl⟩
              · refine G_bipush hC dX10_guest_47 (by decide) ?_
                refine G_goto (tgt := 81) hC dX10_guest_49 (by decide) ?_
                exact G_iret hC hQ dX10_guest_81 ⟨_, rfl, rfl, by
  unfold guestS
  rw [if_pos hg]
  simp only [Int.toNat_natCast]
  first
    | (rw [if_pos (by omega)]; done)
    | (rw [if_neg (by omega), if_pos (by omega), hdn, if_pos (by omega)]; done)
    | (rw [if_neg (by omega), if_pos (by omega), hdn, if_neg (by omega)]; done)
    | (rw [if_neg (by omega), if_neg (by omega), if_pos (by omega)]; done)
    | (rw [if_neg (by omega), if_neg (by omega), if_neg (by omega), if_pos (by omega)]; exact b2), hI, eqx.refl⟩
          · refine G_al0 hC dX10_guest_23 ?_
            refine G_getR hC fl_X10_7 (by first | assumption | rfl) (by omega) (by first | assumption | exact hGr _ _ rfl) dX10_guest_24 ?_
            refine G_il1 hC dX10_guest_27 ?_
            refine G_ialoadN (n := g) hC (by first | assumption | rfl) (by omega) (by omega) (by omega) dX10_guest_28 ?_
            rw [a1]
            refine G_goto (tgt := 81) hC dX10_guest_29 (by decide) ?_
            exact G_iret hC hQ dX10_guest_81 ⟨_, rfl, rfl, by
  unfold guestS
  rw [if_pos hg]
  simp only [Int.toNat_natCast]
  first
    | (rw [if_pos (by omega)]; done)
    | (rw [if_neg (by omega), if_pos (by omega), hdn, if_pos (by omega)]; done)
    | (rw [if_neg (by omega), if_pos (by omega), hdn, if_neg (by omega)]; done)
    | (rw [if_neg (by omega), if_neg (by omega), if_pos (by omega)]; done)
    | (rw [if_neg (by omega), if_neg (by omega), if_neg (by omega), if_pos (by omega)]; exact b2), hI, eqx.refl⟩
        · exact absurd c14 (by omega)
    · refine G_al0 hC dX10_guest_0 ?_
      refine G_il1 hC dX10_guest_1 ?_
      refine G_callVI hC (c_X10_isGuest1 hS hI (by unfold i32r; omega) hg) mv_X10_192 (by first | assumption | rfl) (by omega) (by decide) rfl (by decide) dX10_guest_2 rfl (Nat.le_of_ble_eq_true rfl) rfl (fun z2 M2 P2 h2 => ?_)
      obtain ⟨rfl, rfl, rfl⟩ := h2
      refine G_if_eq (tgt := 17) hC dX10_guest_5 (by decide) (by omega) (fun c5 => ?_) (fun c5 => ?_)
      · exact absurd c5 (by omega)
      · refine G_il2 hC dX10_guest_8 ?_
        refine G_iconst hC dX10_guest_9 ?_
        refine G_iconst hC dX10_guest_10 ?_
        refine G_callSI hC (c_in0 (by unfold i32r; omega) (by unfold i32r; omega) (by unfold i32r; omega) hk) ms_X10_119 (by decide) rfl (by decide) dX10_guest_11 rfl (Nat.le_of_ble_eq_true rfl) rfl (fun z11 M11 P11 h11 => ?_)
        obtain ⟨rfl, rfl, rfl⟩ := h11
        refine G_if_ne (tgt := 19) hC dX10_guest_14 (by decide) (by omega) (fun c14 => ?_) (fun c14 => ?_)
        · exact absurd rfl c14
        · refine G_iconst hC dX10_guest_17 ?_
          exact G_iret hC hQ dX10_guest_18 ⟨_, rfl, rfl, by unfold guestS; rw [if_pos hg, if_neg (by omega), if_neg (by omega), if_neg (by omega), if_neg (by omega)], hI, eqx.refl⟩
  · refine G_al0 hC dX10_guest_0 ?_
    refine G_il1 hC dX10_guest_1 ?_
    refine G_callVI hC (c_X10_isGuest0 hS hI (by unfold i32r; omega) hg) mv_X10_192 (by first | assumption | rfl) (by omega) (by decide) rfl (by decide) dX10_guest_2 rfl (Nat.le_of_ble_eq_true rfl) rfl (fun z2 M2 P2 h2 => ?_)
    obtain ⟨rfl, rfl, rfl⟩ := h2
    refine G_if_eq (tgt := 17) hC dX10_guest_5 (by decide) (by omega) (fun c5 => ?_) (fun c5 => ?_)
    · refine G_iconst hC dX10_guest_17 ?_
      exact G_iret hC hQ dX10_guest_18 ⟨_, rfl, rfl, by unfold guestS; rw [if_neg hg], hI, eqx.refl⟩
    · exact absurd rfl c5
set_option maxHeartbeats 4000000 in
set_option maxRecDepth 100000 in
theorem c_X10_worthAt {l : Launch} {c : Nat} {S : AS} {g e : Nat} {m : Int} {M : Mem} {P : PMem} (hS : SOK c S) (hK : TOK S) (hI : MIv c M P S) (hg : g < tn (sT S)) (he : e < 6 ∨ e = 7) (hcm : 0 ≤ (sCo S : Int) * m ∧ (sCo S : Int) * m ≤ 1000000) : CtI l yX10_worthAt cX10_worthAt 5 (some .int) 0 0 77 [vR 45, vI g, vI (nv e), vI m] M P (pI (wAt (sT S) (sCo S) m g e) M P) := by
  refine Ct_of (own := RX10) (L := [vR 45, vI g, vI (nv e), vI m, vX 1]) (by decide) rfl rfl (Nat.le_of_ble_eq_true rfl) (fun X Y hl hC hQ => ?_)
  obtain ⟨hGr, ⟨⟨g0, g1, g2, g3, g4⟩, g5⟩, ⟨g6, g7⟩, g8, g9, ⟨g10, g11⟩, g12⟩ := id hI
  obtain ⟨s1, ⟨s2, s3, s4, s5, s6, s7, s8⟩, ⟨s9, s10, s11, s12⟩, s13, s14, s15, s16, s17, s18⟩ := id hS
  obtain ⟨m1, m2, m3, m4⟩ := id s14
  obtain ⟨a1, a2, a3, a4⟩ := g5 g hg
  by_cases h7 : e = 7
  · have hr : wAt (sT S) (sCo S) m g e = 0 := by unfold wAt wo; rw [if_neg (by omega)]; simp
    have hv : nv e = -1 := by unfold nv; rw [if_pos h7]
    refine G_bipush hC dX10_worthAt_0 (by decide) ?_
    refine G_al0 hC dX10_worthAt_2 ?_
    refine G_getI hC fl_X10_180 (by first | assumption | rfl) (by omega) dX10_worthAt_3 ?_
    rw [g4]
    refine G_il3 hC dX10_worthAt_6 ?_
    refine G_imul hC dX10_worthAt_7 ?_
    refine G_isub hC dX10_worthAt_8 ?_
    refine G_is4 hC dX10_worthAt_9 rfl ?_
    rw [hv]
    refine G_il2 hC dX10_worthAt_11 ?_
    refine G_iconst hC dX10_worthAt_12 ?_
    refine G_icmp_eq (tgt := 21) hC dX10_worthAt_13 (by decide) (by omega) (by omega) (fun c13 => ?_) (fun c13 => ?_)
    · refine G_iconst hC dX10_worthAt_21 ?_
      refine G_goto (tgt := 42) hC dX10_worthAt_22 (by decide) ?_
      exact G_iret hC hQ dX10_worthAt_42 ⟨_, rfl, by rw [hr], rfl, rfl⟩
    · exact absurd (by omega) c13
  · have he6 : e < 6 := by omega
    have hv : nv e = (e : Int) := by unfold nv; rw [if_neg h7]
    have hwk := (hK g (by omega)).2 e he6
    have hwr : wAt (sT S) (sCo S) m g e = (tw (sT S) g e : Int) * max 0 (10 - sCo S * m) / 10 := by unfold wAt wo; rw [if_pos he6]
    have hpr := mul_rng (a := (tw (sT S) g e : Int)) (b := max 0 (10 - sCo S * m)) (A := 9) (B := 10) (by omega) (by omega)
    refine G_bipush hC dX10_worthAt_0 (by decide) ?_
    refine G_al0 hC dX10_worthAt_2 ?_
    refine G_getI hC fl_X10_180 (by first | assumption | rfl) (by omega) dX10_worthAt_3 ?_
    rw [g4]
    refine G_il3 hC dX10_worthAt_6 ?_
    refine G_imul hC dX10_worthAt_7 ?_
    refine G_isub hC dX10_worthAt_8 ?_
    refine G_is4 hC dX10_worthAt_9 rfl ?_
    rw [hv]
    refine G_il2 hC dX10_worthAt_11 ?_
    refine G_iconst hC dX10_worthAt_12 ?_
    refine G_icmp_eq (tgt := 21) hC dX10_worthAt_13 (by decide) (by omega) (by omega) (fun c13 => ?_) (fun c13 => ?_)
    · exact absurd c13 (by omega)
    · refine G_il4 hC dX10_worthAt_16 ?_
      refine G_if_ge (tgt := 25) hC dX10_worthAt_18 (by decide) (by omega) (fun c18 => ?_) (fun c18 => ?_)
      · refine G_al0 hC dX10_worthAt_25 ?_
        refine G_getR hC fl_X10_16 (by first | assumption | rfl) (by omega) (by first | assumption | exact hGr _ _ rfl) dX10_worthAt_26 ?_
        refine G_bipush hC dX10_worthAt_29 (by decide) ?_
        refine G_il1 hC dX10_worthAt_31 ?_
        refine G_imul hC dX10_worthAt_32 ?_
        refine G_il2 hC dX10_worthAt_33 ?_
        refine G_iadd hC dX10_worthAt_34 ?_
        refine G_ialoadN (n := 6 * g + e) hC (by first | assumption | rfl) (by omega) (by omega) (by omega) dX10_worthAt_35 ?_
        rw [a4 e he6]
        refine G_il4 hC dX10_worthAt_36 ?_
        refine G_imul hC dX10_worthAt_38 ?_
        refine G_bipush hC dX10_worthAt_39 (by decide) ?_
        refine G_idiv hC dX10_worthAt_41 (by rw [show (10 : Int) - sCo S * m = max 0 (10 - sCo S * m) by omega]; omega) (by omega) ?_
        exact G_iret hC hQ dX10_worthAt_42 ⟨_, rfl, by
  first
    | (rw [hwr, show max 0 (10 - (sCo S : Int) * m) = 0 by omega]; simp; done)
    | (rw [hwr, show max 0 (10 - (sCo S : Int) * m) = 10 - sCo S * m by omega]; done), rfl, rfl⟩
      · refine G_iconst hC dX10_worthAt_21 ?_
        refine G_goto (tgt := 42) hC dX10_worthAt_22 (by decide) ?_
        exact G_iret hC hQ dX10_worthAt_42 ⟨_, rfl, by
  first
    | (rw [hwr, show max 0 (10 - (sCo S : Int) * m) = 0 by omega]; simp; done)
    | (rw [hwr, show max 0 (10 - (sCo S : Int) * m) = 10 - sCo S * m by omega]; done), rfl, rfl⟩
set_option maxHeartbeats 4000000 in
set_option maxRecDepth 100000 in
theorem c_X10_worth {l : Launch} {c : Nat} {S : AS} {i d m : Int} {M : Mem} {P : PMem} (hS : SOK c S) (hK : TOK S) (hI : MIv c M P S) (hi : i32r i) (hd0 : i32r d) (hm0 : i32r m) : CtI l yX10_worth cX10_worth 4 (some .int) 2 43 77 [vR 45, vI i, vI d, vI m] M P (mR c M P S (worthS S i d m)) := by
  refine Ct_of (own := RX10) (L := [vR 45, vI i, vI d, vI m]) (by decide) rfl rfl (Nat.le_of_ble_eq_true rfl) (fun X Y hl hC hQ => ?_)
  obtain ⟨hGr, ⟨⟨g0, g1, g2, g3, g4⟩, g5⟩, ⟨g6, g7⟩, g8, g9, ⟨g10, g11⟩, g12⟩ := id hI
  obtain ⟨s1, ⟨s2, s3, s4, s5, s6, s7, s8⟩, ⟨s9, s10, s11, s12⟩, s13, s14, s15, s16, s17, s18⟩ := id hS
  obtain ⟨m1, m2, m3, m4⟩ := id s14
  unfold i32r at *
  by_cases hg : isG S i
  · by_cases hd : isD S d
    · by_cases hm : 0 ≤ m ∧ m ≤ 99
      · obtain ⟨g, rfl⟩ : ∃ g : Nat, i = (g : Int) := ⟨i.toNat, by have := hg.1; omega⟩
        obtain ⟨e, rfl⟩ : ∃ e : Nat, d = (e : Int) := ⟨d.toNat, by have := hd.1; omega⟩
        have hg2 := hg.2
        have hd2 := hd.2
        have hcm := mul_rng (a := (sCo S : Int)) (b := m) (A := 9) (B := 99) (by omega) (by omega)
        have hne : (e : Int) = nv e := by unfold nv; rw [if_neg (by omega)]
        refine G_al0 hC dX10_worth_0 ?_
        refine G_il1 hC dX10_worth_1 ?_
        refine G_callVI hC (c_X10_isGuest1 hS hI (by unfold i32r; omega) hg) mv_X10_192 (by first | assumption | rfl) (by omega) (by decide) rfl (by decide) dX10_worth_2 rfl (Nat.le_of_ble_eq_true rfl) rfl (fun z2 M2 P2 h2 => ?_)
        obtain ⟨rfl, rfl, rfl⟩ := h2
        refine G_if_eq (tgt := 36) hC dX10_worth_5 (by decide) (by omega) (fun c5 => ?_) (fun c5 => ?_)
        · exact absurd c5 (by omega)
        · refine G_al0 hC dX10_worth_8 ?_
          refine G_il2 hC dX10_worth_9 ?_
          refine G_callVI hC (c_X10_isDish1 hS hI (by unfold i32r; omega) hd) mv_X10_195 (by first | assumption | rfl) (by omega) (by decide) rfl (by decide) dX10_worth_10 rfl (Nat.le_of_ble_eq_true rfl) rfl (fun z10 M10 P10 h10 => ?_)
          obtain ⟨rfl, rfl, rfl⟩ := h10
          refine G_if_eq (tgt := 36) hC dX10_worth_13 (by decide) (by omega) (fun c13 => ?_) (fun c13 => ?_)
          · exact absurd c13 (by omega)
          · refine G_il3 hC dX10_worth_16 ?_
            refine G_iconst hC dX10_worth_17 ?_
            refine G_bipush hC dX10_worth_18 (by decide) ?_
            refine G_callSI hC (c_in1 (by unfold i32r; omega) (by unfold i32r; omega) (by unfold i32r; omega) hm) ms_X10_119 (by decide) rfl (by decide) dX10_worth_20 rfl (Nat.le_of_ble_eq_true rfl) rfl (fun z20 M20 P20 h20 => ?_)
            obtain ⟨rfl, rfl, rfl⟩ := h20
            refine G_if_eq (tgt := 36) hC dX10_worth_23 (by decide) (by omega) (fun c23 => ?_) (fun c23 => ?_)
            · exact absurd c23 (by omega)
            · refine G_al0 hC dX10_worth_26 ?_
              refine G_il1 hC dX10_worth_27 ?_
              refine G_il2 hC dX10_worth_28 ?_
              refine G_il3 hC dX10_worth_29 ?_
              rw [hne]
              refine G_callVI hC (c_X10_worthAt (g := g) (e := e) hS hK hI (by omega) (by omega) (by omega)) mv_X10_198 (by first | assumption | rfl) (by omega) (by decide) rfl (by decide) dX10_worth_30 rfl (Nat.le_of_ble_eq_true rfl) rfl (fun z30 M30 P30 h30 => ?_)
              obtain ⟨rfl, rfl, rfl⟩ := h30
              refine G_goto (tgt := 37) hC dX10_worth_33 (by decide) ?_
              exact G_iret hC hQ dX10_worth_37 ⟨_, rfl, rfl, by unfold worthS; rw [if_pos ⟨hg, hd, hm⟩]; simp, hI, eqx.refl⟩
      · refine G_al0 hC dX10_worth_0 ?_
        refine G_il1 hC dX10_worth_1 ?_
        refine G_callVI hC (c_X10_isGuest1 hS hI (by unfold i32r; omega) hg) mv_X10_192 (by first | assumption | rfl) (by omega) (by decide) rfl (by decide) dX10_worth_2 rfl (Nat.le_of_ble_eq_true rfl) rfl (fun z2 M2 P2 h2 => ?_)
        obtain ⟨rfl, rfl, rfl⟩ := h2
        refine G_if_eq (tgt := 36) hC dX10_worth_5 (by decide) (by omega) (fun c5 => ?_) (fun c5 => ?_)
        · exact absurd c5 (by omega)
        · refine G_al0 hC dX10_worth_8 ?_
          refine G_il2 hC dX10_worth_9 ?_
          refine G_callVI hC (c_X10_isDish1 hS hI (by unfold i32r; omega) hd) mv_X10_195 (by first | assumption | rfl) (by omega) (by decide) rfl (by decide) dX10_worth_10 rfl (Nat.le_of_ble_eq_true rfl) rfl (fun z10 M10 P10 h10 => ?_)
          obtain ⟨rfl, rfl, rfl⟩ := h10
          refine G_if_eq (tgt := 36) hC dX10_worth_13 (by decide) (by omega) (fun c13 => ?_) (fun c13 => ?_)
          · exact absurd c13 (by omega)
          · refine G_il3 hC dX10_worth_16 ?_
            refine G_iconst hC dX10_worth_17 ?_
            refine G_bipush hC dX10_worth_18 (by decide) ?_
            refine G_callSI hC (c_in0 (by unfold i32r; omega) (by unfold i32r; omega) (by unfold i32r; omega) hm) ms_X10_119 (by decide) rfl (by decide) dX10_worth_20 rfl (Nat.le_of_ble_eq_true rfl) rfl (fun z20 M20 P20 h20 => ?_)
            obtain ⟨rfl, rfl, rfl⟩ := h20
            refine G_if_eq (tgt := 36) hC dX10_worth_23 (by decide) (by omega) (fun c23 => ?_) (fun c23 => ?_)
            · refine G_iconst hC dX10_worth_36 ?_
              exact G_iret hC hQ dX10_worth_37 ⟨_, rfl, rfl, by unfold worthS; rw [if_neg (fun z => hm z.2.2)], hI, eqx.refl⟩
            · exact absurd rfl c23
    · refine G_al0 hC dX10_worth_0 ?_
      refine G_il1 hC dX10_worth_1 ?_
      refine G_callVI hC (c_X10_isGuest1 hS hI (by unfold i32r; omega) hg) mv_X10_192 (by first | assumption | rfl) (by omega) (by decide) rfl (by decide) dX10_worth_2 rfl (Nat.le_of_ble_eq_true rfl) rfl (fun z2 M2 P2 h2 => ?_)
      obtain ⟨rfl, rfl, rfl⟩ := h2
      refine G_if_eq (tgt := 36) hC dX10_worth_5 (by decide) (by omega) (fun c5 => ?_) (fun c5 => ?_)
      · exact absurd c5 (by omega)
      · refine G_al0 hC dX10_worth_8 ?_
        refine G_il2 hC dX10_worth_9 ?_
        refine G_callVI hC (c_X10_isDish0 hS hI (by unfold i32r; omega) hd) mv_X10_195 (by first | assumption | rfl) (by omega) (by decide) rfl (by decide) dX10_worth_10 rfl (Nat.le_of_ble_eq_true rfl) rfl (fun z10 M10 P10 h10 => ?_)
        obtain ⟨rfl, rfl, rfl⟩ := h10
        refine G_if_eq (tgt := 36) hC dX10_worth_13 (by decide) (by omega) (fun c13 => ?_) (fun c13 => ?_)
        · refine G_iconst hC dX10_worth_36 ?_
          exact G_iret hC hQ dX10_worth_37 ⟨_, rfl, rfl, by unfold worthS; rw [if_neg (fun z => hd z.2.1)], hI, eqx.refl⟩
        · exact absurd rfl c13
  · refine G_al0 hC dX10_worth_0 ?_
    refine G_il1 hC dX10_worth_1 ?_
    refine G_callVI hC (c_X10_isGuest0 hS hI (by unfold i32r; omega) hg) mv_X10_192 (by first | assumption | rfl) (by omega) (by decide) rfl (by decide) dX10_worth_2 rfl (Nat.le_of_ble_eq_true rfl) rfl (fun z2 M2 P2 h2 => ?_)
    obtain ⟨rfl, rfl, rfl⟩ := h2
    refine G_if_eq (tgt := 36) hC dX10_worth_5 (by decide) (by omega) (fun c5 => ?_) (fun c5 => ?_)
    · refine G_iconst hC dX10_worth_36 ?_
      exact G_iret hC hQ dX10_worth_37 ⟨_, rfl, rfl, by unfold worthS; rw [if_neg (fun z => hg z.1)], hI, eqx.refl⟩
    · exact absurd rfl c5
def wyF (T : TB) (i j : Nat) : Int := if tr T = 0 then (j : Int) - i else if 2 * ((j + tn T - i) % tn T) ≤ tn T then ((j + tn T - i) % tn T : Nat) else ((j + tn T - i) % tn T : Nat) - (tn T : Int)
theorem way_ok {T : TB} {i j : Nat} (h6 : tn T ≤ 6) (hr : tr T ≤ 1) (hi : i < tn T) (hj : j < tn T) : (hnd T i j : Int) = (if wyF T i j < 0 then - wyF T i j else wyF T i j) ∧ (i ≠ j → (stp T i j = if wyF T i j < 0 then 0 else 1)) := by
  have hm : (j + tn T - i) % tn T = sR T i j := by
    unfold sR
    split
    · rw [show j + tn T - i = (j - i) + tn T by omega, Nat.add_mod_right, Nat.mod_eq_of_lt (by omega)]
    · exact Nat.mod_eq_of_lt (by omega)
  have hs : sR T i j < tn T := by unfold sR; split <;> omega
  unfold hnd stp wyF
  rw [hm]
  by_cases hr0 : tr T = 0
  · simp only [if_pos hr0]
    constructor
    · split <;> split <;> omega
    · intro hij
      split <;> split <;> omega
  · simp only [if_neg hr0]
    by_cases z : 2 * sR T i j ≤ tn T
    · simp only [if_pos z]
      constructor
      · rw [if_neg (by omega)]; omega
      · intro hij
        rw [if_pos (by omega), if_neg (by omega)]
    · simp only [if_neg z]
      constructor
      · rw [if_pos (by omega)]; omega
      · intro hij
        rw [if_neg (by omega), if_pos (by omega)]
theorem wyF_r {T : TB} {i j : Nat} (h6 : tn T ≤ 6) (hi : i < tn T) (hj : j < tn T) : -6 ≤ wyF T i j ∧ wyF T i j ≤ 6 := by
  have := Nat.mod_lt (j + tn T - i) (show 0 < tn T by omega)
  unfold wyF
  split
  · omega
  · split <;> omega
set_option maxHeartbeats 4000000 in
set_option maxRecDepth 100000 in
theorem c_X10_wayOf {l : Launch} {T : TB} {i j : Nat} {M : Mem} {P : PMem} (hGr : GrM P) (g0 : M 45 0 = (tn T : Int)) (g2 : M 45 2 = (tr T : Int)) (s6 : 2 ≤ tn T) (s7 : tn T ≤ 6) (s8 : tr T ≤ 1) (hi : i < tn T) (hj : j < tn T)  : CtI l yX10_wayOf cX10_wayOf 4 (some .int) 0 0 77 [vR 45, vI i, vI j] M P (pI (wyF T i j) M P) := by
  refine Ct_of (own := RX10) (L := [vR 45, vI i, vI j, vX 1]) (by decide) rfl rfl (Nat.le_of_ble_eq_true rfl) (fun X Y hl hC hQ => ?_)
  have hmod := Nat.mod_lt (j + tn T - i) (show 0 < tn T by omega)
  have hmz : ((j : Int) - i + tn T) % (tn T : Int) = ((j + tn T - i) % tn T : Nat) := by
    rw [show (j : Int) - i + tn T = ((j + tn T - i : Nat) : Int) by omega]; rfl
  refine G_il2 hC dX10_wayOf_0 ?_
  refine G_il1 hC dX10_wayOf_1 ?_
  refine G_isub hC dX10_wayOf_2 ?_
  refine G_al0 hC dX10_wayOf_3 ?_
  refine G_getI hC fl_X10_116 (by first | assumption | rfl) (by omega) dX10_wayOf_4 ?_
  rw [g0]
  refine G_iadd hC dX10_wayOf_7 ?_
  refine G_al0 hC dX10_wayOf_8 ?_
  refine G_getI hC fl_X10_116 (by first | assumption | rfl) (by omega) dX10_wayOf_9 ?_
  rw [g0]
  refine G_irem hC dX10_wayOf_12 (by omega) (by omega) ?_
  rw [hmz]
  refine G_is3 hC dX10_wayOf_13 rfl ?_
  refine G_al0 hC dX10_wayOf_14 ?_
  refine G_getI hC fl_X10_173 (by first | assumption | rfl) (by omega) dX10_wayOf_15 ?_
  rw [g2]
  refine G_if_ne (tgt := 27) hC dX10_wayOf_18 (by decide) (by omega) (fun c18 => ?_) (fun c18 => ?_)
  · refine G_iconst hC dX10_wayOf_27 ?_
    refine G_il3 hC dX10_wayOf_28 ?_
    refine G_imul hC dX10_wayOf_29 ?_
    refine G_al0 hC dX10_wayOf_30 ?_
    refine G_getI hC fl_X10_116 (by first | assumption | rfl) (by omega) dX10_wayOf_31 ?_
    rw [g0]
    refine G_icmp_gt (tgt := 41) hC dX10_wayOf_34 (by decide) (by omega) (by omega) (fun c34 => ?_) (fun c34 => ?_)
    · refine G_il3 hC dX10_wayOf_41 ?_
      refine G_al0 hC dX10_wayOf_42 ?_
      refine G_getI hC fl_X10_116 (by first | assumption | rfl) (by omega) dX10_wayOf_43 ?_
      rw [g0]
      refine G_isub hC dX10_wayOf_46 ?_
      exact G_iret hC hQ dX10_wayOf_47 ⟨_, rfl, by
  unfold wyF
  first
    | (rw [if_pos (by omega)]; done)
    | (rw [if_neg (by omega), if_pos (by omega)]; done)
    | (rw [if_neg (by omega), if_neg (by omega)]; done), rfl, rfl⟩
    · refine G_il3 hC dX10_wayOf_37 ?_
      refine G_goto (tgt := 47) hC dX10_wayOf_38 (by decide) ?_
      exact G_iret hC hQ dX10_wayOf_47 ⟨_, rfl, by
  unfold wyF
  first
    | (rw [if_pos (by omega)]; done)
    | (rw [if_neg (by omega), if_pos (by omega)]; done)
    | (rw [if_neg (by omega), if_neg (by omega)]; done), rfl, rfl⟩
  · refine G_il2 hC dX10_wayOf_21 ?_
    refine G_il1 hC dX10_wayOf_22 ?_
    refine G_isub hC dX10_wayOf_23 ?_
    refine G_goto (tgt := 47) hC dX10_wayOf_24 (by decide) ?_
    exact G_iret hC hQ dX10_wayOf_47 ⟨_, rfl, by
  unfold wyF
  first
    | (rw [if_pos (by omega)]; done)
    | (rw [if_neg (by omega), if_pos (by omega)]; done)
    | (rw [if_neg (by omega), if_neg (by omega)]; done), rfl, rfl⟩
set_option maxHeartbeats 4000000 in
set_option maxRecDepth 100000 in
theorem c_X10_handsOf {l : Launch} {T : TB} {i j : Nat} {M : Mem} {P : PMem} (hGr : GrM P) (g0 : M 45 0 = (tn T : Int)) (g2 : M 45 2 = (tr T : Int)) (s6 : 2 ≤ tn T) (s7 : tn T ≤ 6) (s8 : tr T ≤ 1) (hi : i < tn T) (hj : j < tn T)  : CtI l yX10_handsOf cX10_handsOf 4 (some .int) 1 23 77 [vR 45, vI i, vI j] M P (pI (hnd T i j) M P) := by
  refine Ct_of (own := RX10) (L := [vR 45, vI i, vI j, vX 1]) (by decide) rfl rfl (Nat.le_of_ble_eq_true rfl) (fun X Y hl hC hQ => ?_)
  have hwr := wyF_r (T := T) s7 hi hj
  have hwo := (way_ok (T := T) s7 s8 hi hj).1
  refine G_al0 hC dX10_handsOf_0 ?_
  refine G_il1 hC dX10_handsOf_1 ?_
  refine G_il2 hC dX10_handsOf_2 ?_
  refine G_callVI hC (c_X10_wayOf hGr g0 g2 s6 s7 s8 hi hj) mv_X10_202 (by first | assumption | rfl) (by omega) (by decide) rfl (by decide) dX10_handsOf_3 rfl (Nat.le_of_ble_eq_true rfl) rfl (fun z3 M3 P3 h3 => ?_)
  obtain ⟨rfl, rfl, rfl⟩ := h3
  refine G_is3 hC dX10_handsOf_6 rfl ?_
  refine G_il3 hC dX10_handsOf_7 ?_
  refine G_if_ge (tgt := 16) hC dX10_handsOf_8 (by decide) (by omega) (fun c8 => ?_) (fun c8 => ?_)
  · refine G_il3 hC dX10_handsOf_16 ?_
    exact G_iret hC hQ dX10_handsOf_17 ⟨_, rfl, by rw [hwo]; first | (rw [if_pos (by omega)]; done) | (rw [if_neg (by omega)]; done), rfl, rfl⟩
  · refine G_il3 hC dX10_handsOf_11 ?_
    refine G_ineg hC dX10_handsOf_12 ?_
    refine G_goto (tgt := 17) hC dX10_handsOf_13 (by decide) ?_
    exact G_iret hC hQ dX10_handsOf_17 ⟨_, rfl, by rw [hwo]; first | (rw [if_pos (by omega)]; done) | (rw [if_neg (by omega)]; done), rfl, rfl⟩
set_option maxHeartbeats 4000000 in
set_option maxRecDepth 100000 in
theorem c_X10_hands {l : Launch} {c : Nat} {S : AS} {i j : Int} {M : Mem} {P : PMem} (hS : SOK c S) (hI : MIv c M P S) (hi : i32r i) (hj0 : i32r j) : CtI l yX10_hands cX10_hands 3 (some .int) 2 46 77 [vR 45, vI i, vI j] M P (mR c M P S (handsS S i j)) := by
  refine Ct_of (own := RX10) (L := [vR 45, vI i, vI j]) (by decide) rfl rfl (Nat.le_of_ble_eq_true rfl) (fun X Y hl hC hQ => ?_)
  obtain ⟨hGr, ⟨⟨g0, g1, g2, g3, g4⟩, g5⟩, ⟨g6, g7⟩, g8, g9, ⟨g10, g11⟩, g12⟩ := id hI
  obtain ⟨s1, ⟨s2, s3, s4, s5, s6, s7, s8⟩, ⟨s9, s10, s11, s12⟩, s13, s14, s15, s16, s17, s18⟩ := id hS
  obtain ⟨m1, m2, m3, m4⟩ := id s14
  unfold i32r at *
  by_cases hg : isG S i
  · by_cases hj : isG S j
    · obtain ⟨g, rfl⟩ : ∃ g : Nat, i = (g : Int) := ⟨i.toNat, by have := hg.1; omega⟩
      obtain ⟨e, rfl⟩ : ∃ e : Nat, j = (e : Int) := ⟨j.toNat, by have := hj.1; omega⟩
      have hg2 := hg.2
      have hj2 := hj.2
      refine G_al0 hC dX10_hands_0 ?_
      refine G_il1 hC dX10_hands_1 ?_
      refine G_callVI hC (c_X10_isGuest1 hS hI (by unfold i32r; omega) hg) mv_X10_192 (by first | assumption | rfl) (by omega) (by decide) rfl (by decide) dX10_hands_2 rfl (Nat.le_of_ble_eq_true rfl) rfl (fun z2 M2 P2 h2 => ?_)
      obtain ⟨rfl, rfl, rfl⟩ := h2
      refine G_if_eq (tgt := 25) hC dX10_hands_5 (by decide) (by omega) (fun c5 => ?_) (fun c5 => ?_)
      · exact absurd c5 (by omega)
      · refine G_al0 hC dX10_hands_8 ?_
        refine G_il2 hC dX10_hands_9 ?_
        refine G_callVI hC (c_X10_isGuest1 hS hI (by unfold i32r; omega) hj) mv_X10_192 (by first | assumption | rfl) (by omega) (by decide) rfl (by decide) dX10_hands_10 rfl (Nat.le_of_ble_eq_true rfl) rfl (fun z10 M10 P10 h10 => ?_)
        obtain ⟨rfl, rfl, rfl⟩ := h10
        refine G_if_eq (tgt := 25) hC dX10_hands_13 (by decide) (by omega) (fun c13 => ?_) (fun c13 => ?_)
        · exact absurd c13 (by omega)
        · refine G_al0 hC dX10_hands_16 ?_
          refine G_il1 hC dX10_hands_17 ?_
          refine G_il2 hC dX10_hands_18 ?_
          refine G_callVI hC (c_X10_handsOf (T := sT S) (i := g) (j := e) hGr g0 g2 s6 s7 s8 (by omega) (by omega)) mv_X10_206 (by first | assumption | rfl) (by omega) (by decide) rfl (by decide) dX10_hands_19 rfl (Nat.le_of_ble_eq_true rfl) rfl (fun z19 M19 P19 h19 => ?_)
          obtain ⟨rfl, rfl, rfl⟩ := h19
          refine G_goto (tgt := 26) hC dX10_hands_22 (by decide) ?_
          exact G_iret hC hQ dX10_hands_26 ⟨_, rfl, rfl, by unfold handsS; rw [if_pos ⟨hg, hj⟩]; simp, hI, eqx.refl⟩
    · refine G_al0 hC dX10_hands_0 ?_
      refine G_il1 hC dX10_hands_1 ?_
      refine G_callVI hC (c_X10_isGuest1 hS hI (by unfold i32r; omega) hg) mv_X10_192 (by first | assumption | rfl) (by omega) (by decide) rfl (by decide) dX10_hands_2 rfl (Nat.le_of_ble_eq_true rfl) rfl (fun z2 M2 P2 h2 => ?_)
      obtain ⟨rfl, rfl, rfl⟩ := h2
      refine G_if_eq (tgt := 25) hC dX10_hands_5 (by decide) (by omega) (fun c5 => ?_) (fun c5 => ?_)
      · exact absurd c5 (by omega)
      · refine G_al0 hC dX10_hands_8 ?_
        refine G_il2 hC dX10_hands_9 ?_
        refine G_callVI hC (c_X10_isGuest0 hS hI (by unfold i32r; omega) hj) mv_X10_192 (by first | assumption | rfl) (by omega) (by decide) rfl (by decide) dX10_hands_10 rfl (Nat.le_of_ble_eq_true rfl) rfl (fun z10 M10 P10 h10 => ?_)
        obtain ⟨rfl, rfl, rfl⟩ := h10
        refine G_if_eq (tgt := 25) hC dX10_hands_13 (by decide) (by omega) (fun c13 => ?_) (fun c13 => ?_)
        · refine G_iconst hC dX10_hands_25 ?_
          exact G_iret hC hQ dX10_hands_26 ⟨_, rfl, rfl, by unfold handsS; rw [if_neg (fun z => hj z.2)], hI, eqx.refl⟩
        · exact absurd rfl c13
  · refine G_al0 hC dX10_hands_0 ?_
    refine G_il1 hC dX10_hands_1 ?_
    refine G_callVI hC (c_X10_isGuest0 hS hI (by unfold i32r; omega) hg) mv_X10_192 (by first | assumption | rfl) (by omega) (by decide) rfl (by decide) dX10_hands_2 rfl (Nat.le_of_ble_eq_true rfl) rfl (fun z2 M2 P2 h2 => ?_)
    obtain ⟨rfl, rfl, rfl⟩ := h2
    refine G_if_eq (tgt := 25) hC dX10_hands_5 (by decide) (by omega) (fun c5 => ?_) (fun c5 => ?_)
    · refine G_iconst hC dX10_hands_25 ?_
      exact G_iret hC hQ dX10_hands_26 ⟨_, rfl, rfl, by unfold handsS; rw [if_neg (fun z => hg z.1)], hI, eqx.refl⟩
    · exact absurd rfl c5
set_option maxHeartbeats 4000000 in
set_option maxRecDepth 100000 in
theorem c_X10_evening {l : Launch} {c : Nat} {S : AS} {M : Mem} {P : PMem} (hS : SOK c S) (hK : TOK S) (hI : MIv c M P S) (hc : c ≤ 520) : CtI l yX10_evening cX10_evening 3 (some .int) 1 24 77 [vR 45] M P (mR c M P S (eveS S)) := by
  refine Ct_of (own := RX10) (L := [vR 45, vX 1, vX 1]) (by decide) rfl rfl (Nat.le_of_ble_eq_true rfl) (fun X Y hl hC hQ => ?_)
  obtain ⟨hGr, ⟨⟨g0, g1, g2, g3, g4⟩, g5⟩, ⟨g6, g7⟩, g8, g9, ⟨g10, g11⟩, g12⟩ := id hI
  obtain ⟨s1, ⟨s2, s3, s4, s5, s6, s7, s8⟩, ⟨s9, s10, s11, s12⟩, s13, s14, s15, s16, s17, s18⟩ := id hS
  obtain ⟨m1, m2, m3, m4⟩ := id s14
  have hcm := co_min m4 hc s5
  have hlp : ∀ (c2 k : Nat) (kv sv : Int), k + c2 = tn (sT S) → kv = (k : Int) → sv = wTog (sT S) (sCo S) ((sNow S).2.2) (sNow S).1 k → G X Y 4 [vR 45, vI sv, vI kv] [] M P := by
    intro c2
    induction c2 with
    | zero =>
      intro k kv sv hk e1 e2
      subst e1; subst e2
      have : k = tn (sT S) := by omega
      refine G_il2 hC dX10_evening_4 ?_
      refine G_al0 hC dX10_evening_5 ?_
      refine G_getI hC fl_X10_116 (by first | assumption | rfl) (by omega) dX10_evening_6 ?_
      rw [g0]
      refine G_icmp_ge (tgt := 36) hC dX10_evening_9 (by decide) (by omega) (by omega) (fun c9 => ?_) (fun c9 => ?_)
      · refine G_il1 hC dX10_evening_36 ?_
        exact G_iret hC hQ dX10_evening_37 ⟨_, rfl, rfl, by unfold eveS; rw [this], hI, eqx.refl⟩
      · exact absurd c9 (by omega)
    | succ c2 ih =>
      intro k kv sv hk e1 e2
      subst e1; subst e2
      refine G_il2 hC dX10_evening_4 ?_
      refine G_al0 hC dX10_evening_5 ?_
      refine G_getI hC fl_X10_116 (by first | assumption | rfl) (by omega) dX10_evening_6 ?_
      rw [g0]
      refine G_icmp_ge (tgt := 36) hC dX10_evening_9 (by decide) (by omega) (by omega) (fun c9 => ?_) (fun c9 => ?_)
      · exact absurd c9 (by omega)
      · refine G_il1 hC dX10_evening_12 ?_
        refine G_al0 hC dX10_evening_13 ?_
        refine G_il2 hC dX10_evening_14 ?_
        refine G_al0 hC dX10_evening_15 ?_
        refine G_getR hC fl_X10_22 (by first | assumption | rfl) (by omega) (by first | assumption | exact hGr _ _ rfl) dX10_evening_16 ?_
        refine G_il2 hC dX10_evening_19 ?_
        refine G_ialoadN (n := k) hC (by first | assumption | rfl) (by omega) (by omega) (by omega) dX10_evening_20 ?_
        rw [(g6 k (by omega)).1]
        refine G_al0 hC dX10_evening_21 ?_
        refine G_getI hC fl_X10_183 (by first | assumption | rfl) (by omega) dX10_evening_22 ?_
        rw [g7]
        refine G_callVI hC (c_X10_worthAt hS hK hI (by omega) (m1 k) hcm) mv_X10_198 (by first | assumption | rfl) (by omega) (by decide) rfl (by decide) dX10_evening_25 rfl (Nat.le_of_ble_eq_true rfl) rfl (fun z25 M25 P25 h25 => ?_)
        obtain ⟨rfl, rfl, rfl⟩ := h25
        refine G_iadd hC dX10_evening_28 ?_
        refine G_is1 hC dX10_evening_29 rfl ?_
        refine G_inc2 hC dX10_evening_30 rfl ?_
        refine G_goto (tgt := 4) hC dX10_evening_33 (by decide) ?_
        exact ih (k + 1) _ _ (by omega) (by omega) rfl
  refine G_iconst hC dX10_evening_0 ?_
  refine G_is1 hC dX10_evening_1 rfl ?_
  refine G_iconst hC dX10_evening_2 ?_
  refine G_is2 hC dX10_evening_3 rfl ?_
  exact hlp (tn (sT S)) 0 _ _ (by omega) rfl rfl
set_option maxHeartbeats 4000000 in
set_option maxRecDepth 100000 in
theorem c_X10_count {l : Launch} {c : Nat} {S : AS} {k : Int} {M : Mem} {P : PMem} (hS : SOK c S) (hI : MIv c M P S) (hk0 : i32r k) : CtI l yX10_count cX10_count 2 (some .int) 0 0 77 [vR 45, vI k] M P (mR c M P S (countS S k)) := by
  refine Ct_of (own := RX10) (L := [vR 45, vI k]) (by decide) rfl rfl (Nat.le_of_ble_eq_true rfl) (fun X Y hl hC hQ => ?_)
  obtain ⟨hGr, ⟨⟨g0, g1, g2, g3, g4⟩, g5⟩, ⟨g6, g7⟩, g8, g9, ⟨g10, g11⟩, g12⟩ := id hI
  obtain ⟨s1, ⟨s2, s3, s4, s5, s6, s7, s8⟩, ⟨s9, s10, s11, s12⟩, s13, s14, s15, s16, s17, s18⟩ := id hS
  obtain ⟨m1, m2, m3, m4⟩ := id s14
  unfold i32r at *
  refine G_il1 hC dX10_count_0 ?_
  by_cases e0 : k = 0
  · subst e0
    refine G_tabIn (off := 43) (tgt := 44) hC dX10_count_1 (by omega) (by omega) (by omega) rfl (by decide) ?_
    refine G_al0 hC dX10_count_44 ?_
    refine G_getI hC fl_X10_116 (by first | assumption | rfl) (by omega) dX10_count_45 ?_
    rw [g0]
    exact G_iret hC hQ dX10_count_48 ⟨_, rfl, rfl, by unfold countS; simp, hI, eqx.refl⟩
  by_cases e1 : k = 1
  · subst e1
    refine G_tabIn (off := 48) (tgt := 49) hC dX10_count_1 (by omega) (by omega) (by omega) rfl (by decide) ?_
    refine G_al0 hC dX10_count_49 ?_
    refine G_getI hC fl_X10_123 (by first | assumption | rfl) (by omega) dX10_count_50 ?_
    rw [g1]
    exact G_iret hC hQ dX10_count_53 ⟨_, rfl, rfl, by unfold countS; simp, hI, eqx.refl⟩
  by_cases e2 : k = 2
  · subst e2
    refine G_tabIn (off := 53) (tgt := 54) hC dX10_count_1 (by omega) (by omega) (by omega) rfl (by decide) ?_
    refine G_al0 hC dX10_count_54 ?_
    refine G_getI hC fl_X10_183 (by first | assumption | rfl) (by omega) dX10_count_55 ?_
    rw [g7]
    exact G_iret hC hQ dX10_count_58 ⟨_, rfl, rfl, by unfold countS; simp, hI, eqx.refl⟩
  by_cases e3 : k = 3
  · subst e3
    refine G_tabIn (off := 58) (tgt := 59) hC dX10_count_1 (by omega) (by omega) (by omega) rfl (by decide) ?_
    refine G_al0 hC dX10_count_59 ?_
    refine G_getI hC fl_X10_186 (by first | assumption | rfl) (by omega) dX10_count_60 ?_
    rw [g8.1]
    exact G_iret hC hQ dX10_count_63 ⟨_, rfl, rfl, by unfold countS; simp, hI, eqx.refl⟩
  by_cases e4 : k = 4
  · subst e4
    refine G_tabIn (off := 63) (tgt := 64) hC dX10_count_1 (by omega) (by omega) (by omega) rfl (by decide) ?_
    refine G_al0 hC dX10_count_64 ?_
    refine G_getI hC fl_X10_189 (by first | assumption | rfl) (by omega) dX10_count_65 ?_
    rw [g9.1]
    exact G_iret hC hQ dX10_count_68 ⟨_, rfl, rfl, by unfold countS; simp, hI, eqx.refl⟩
  by_cases e5 : k = 5
  · subst e5
    refine G_tabIn (off := 68) (tgt := 69) hC dX10_count_1 (by omega) (by omega) (by omega) rfl (by decide) ?_
    refine G_al0 hC dX10_count_69 ?_
    refine G_getI hC fl_X10_126 (by first | assumption | rfl) (by omega) dX10_count_70 ?_
    rw [g11]
    exact G_iret hC hQ dX10_count_73 ⟨_, rfl, rfl, by unfold countS; simp, hI, eqx.refl⟩
  by_cases e6 : k = 6
  · subst e6
    refine G_tabIn (off := 73) (tgt := 74) hC dX10_count_1 (by omega) (by omega) (by omega) rfl (by decide) ?_
    refine G_al0 hC dX10_count_74 ?_
    refine G_getI hC fl_X10_173 (by first | assumption | rfl) (by omega) dX10_count_75 ?_
    rw [g2]
    refine G_if_eq (tgt := 85) hC dX10_count_78 (by decide) (by omega) (fun c78 => ?_) (fun c78 => ?_)
    · refine G_iconst hC dX10_count_85 ?_
      exact G_iret hC hQ dX10_count_86 ⟨_, rfl, rfl, by unfold countS; simp; omega, hI, eqx.refl⟩
    · refine G_iconst hC dX10_count_81 ?_
      refine G_goto (tgt := 86) hC dX10_count_82 (by decide) ?_
      exact G_iret hC hQ dX10_count_86 ⟨_, rfl, rfl, by unfold countS; simp; omega, hI, eqx.refl⟩
  refine G_tabOut (tgt := 87) hC dX10_count_1 (by omega) (by omega) (by decide) ?_
  refine G_iconst hC dX10_count_87 ?_
  exact G_iret hC hQ dX10_count_88 ⟨_, rfl, rfl, by unfold countS; rw [if_neg e0, if_neg e1, if_neg e2, if_neg e3, if_neg e4, if_neg e5, if_neg e6], hI, eqx.refl⟩
