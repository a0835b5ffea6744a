/-! calls that look ahead, as they come out -/
def cQ (c : Nat) (M : Mem) (P : PMem) (S' : AS) (Rr : Int → Prop) : Int → Mem → PMem → Prop := fun r M' P' => Rr r ∧ CIv c M' P' S' ∧ eqx clsX M M' ∧ PX P P'
noncomputable def stuckF (T : TB) (q : Nat) : Int := by classical exact if ∃ i j, can T (dgf q) i j ∧ enc (aft T (dgf q) i j) ≠ q then 0 else 1
def MFo (T : TB) (N : Nat) (lq : Nat → Nat) (mf : Nat → Nat → Nat → Nat) : Prop := ∀ l i j, l < N → (can T (dgf (lq l)) i j → ∃ l', l' < N ∧ mf l i j = l' ∧ lq l' = enc (aft T (dgf (lq l)) i j)) ∧ (¬ can T (dgf (lq l)) i j → mf l i j = 1023)
theorem SI_mf {M : Mem} {T : TB} {N mv tb len : Nat} {lq : Nat → Nat} (h : SI M mv tb len T N lq) : MFo T N lq (fun l i j => mvN M T (lq l) i j) := fun l i j hl => by
  constructor
  · intro hc
    obtain ⟨l', h1, h2⟩ := h.2.2.2 l i j hl hc
    refine ⟨l', h1, ?_, h2⟩
    show mvN M T (lq l) i j = l'
    unfold mvN
    rw [if_pos hc, ← h2, (h.2.1.2.2.2.1 l' h1).2]
    omega
  · intro hc
    show mvN M T (lq l) i j = 1023
    unfold mvN
    rw [if_neg hc]
theorem chg_ok {M : Mem} {T : TB} {N mv tb len k : Nat} {lq : Nat → Nat} (h : SI M mv tb len T N lq) (hk : k < N) : chg M T (lq k) k ↔ ∃ i j, can T (dgf (lq k)) i j ∧ enc (aft T (dgf (lq k)) i j) ≠ lq k := by
  have hm := SI_mf h
  have hN := h.2.1.2.2.1
  constructor
  · rintro ⟨i, j, h1, h2, h3, h4⟩
    by_cases hc : can T (dgf (lq k)) i j
    · obtain ⟨l', a1, a2, a3⟩ := (hm k i j hk).1 hc
      refine ⟨i, j, hc, fun e => h4 ?_⟩
      have : l' = k := h.2.1.inj a1 hk (by rw [a3, e])
      exact a2.trans this
    · exact absurd ((hm k i j hk).2 hc) h3
  · rintro ⟨i, j, hc, h2⟩
    obtain ⟨l', a1, a2, a3⟩ := (hm k i j hk).1 hc
    have a2' : mvN M T (lq k) i j = l' := a2
    exact ⟨i, j, hc.2.1, hc.2.2.1, by omega, fun e => h2 (by rw [← a3, show l' = k by omega])⟩
set_option maxHeartbeats 4000000 in
set_option maxRecDepth 100000 in
theorem c_X9_stuck {l : Launch} {c : Nat} {S : AS} {M : Mem} {P : PMem} (hI : CIv c M P S)  : CtI l yX9_stuck cX9_stuck 1 (some .int) 5 134 45 [vR 0] M P (cR c M P S (stuckF (sT S) (enc (sNow S).1))) := by
  refine Ct_of (own := RX9) (L := [vR 0]) (by decide) rfl rfl (Nat.le_of_ble_eq_true rfl) (fun X Y hl hC hQ => ?_)
  obtain ⟨⟨hGr, wa, wb, hw, hwa, hwb⟩, hS, hA, hT, hF, N, lq, hL⟩ := id hI
  obtain ⟨s1, ⟨s2, s3, s4, s5, s6, s7, s8⟩, ⟨s9, s10, s11, s12⟩, s13, s14, s15, s16, s17, s18⟩ := id hS
  obtain ⟨m1, m2, m3, m4⟩ := id s14
  obtain ⟨f1, f2, f3, f4⟩ := id hF
  obtain ⟨t1, t2, t3, t4, t5⟩ := id hT
  obtain ⟨i1, i2, i3, i4⟩ := id hL.1
  obtain ⟨hR0, hR2, hR6, hRr, hRr1, hRk, hRw⟩ := id i1
  have hT8 : isT 8 := Or.inr (Or.inl rfl)
  have hlo := m1.lo
  obtain ⟨l0, b1, b2, b3⟩ := hL.num hlo m2
  have hgd := hL.good hS (T' := sT S) rfl
  have hN := i2.2.2.1
  have hlo0 : lo8 (sF0 S) := fun i => by rcases s9 i with q | q <;> omega
  refine G_al0 hC dX9_stuck_0 ?_
  refine G_getR hC fl_X9_44 (by first | assumption | rfl) (by omega) (by first | assumption | exact hGr _ _ _ rfl) dX9_stuck_1 ?_
  refine G_al0 hC dX9_stuck_4 ?_
  refine G_getR hC fl_X9_35 (by first | assumption | rfl) (by omega) (by first | assumption | exact hGr _ _ _ rfl) dX9_stuck_5 ?_
  refine G_al0 hC dX9_stuck_8 ?_
  refine G_getR hC fl_X9_76 (by first | assumption | rfl) (by omega) (by first | assumption | exact hGr _ _ _ rfl) dX9_stuck_9 ?_
  refine G_getI hC fl_X9_137 (by first | assumption | rfl) (by omega) dX9_stuck_12 ?_
  rw [f1.1]
  refine G_callVI hC (c_X0_numberOf hGr i2.1 (enc_lt hlo)) mv_X9_211 (by first | assumption | rfl) (by omega) (by decide) rfl (by decide) dX9_stuck_15 rfl (Nat.le_of_ble_eq_true rfl) rfl (fun z15 M15 P15 h15 => ?_)
  obtain ⟨rfl, rfl, rfl⟩ := h15
  rw [b3]
  refine G_callVI hC (c_X3_changeAnything hGr (Or.inl ⟨rfl, rfl, rfl⟩) hL.1 b1) mv_X9_230 (by first | assumption | rfl) (by omega) (by decide) rfl (by decide) dX9_stuck_18 rfl (Nat.le_of_ble_eq_true rfl) rfl (fun z18 M18 P18 h18 => ?_)
  skip
  obtain ⟨rfl, q1, q2, q3⟩ := h18
  have hx : eqx sLk M M18 := q2.mono (fun a ha => by unfold sLk; omega)
  obtain ⟨z1, z2⟩ := CIv_up hI hL ⟨hGr, wa, wb, hw, hwa, hwb⟩ hx q1 (SrI_x hL.2.2.1 (fun a ha b => q2 a (by omega) b)) (WhI_x hL.2.2.2 (q2 25 (by omega)))
  rcases q3 with ⟨rfl, q3⟩ | ⟨rfl, q3⟩
  · rw [chg_ok hL.1 b1] at q3
    refine G_if_eq (tgt := 28) hC dX9_stuck_21 (by decide) (by omega) (fun c21 => ?_) (fun c21 => ?_)
    · exact absurd c21 (by omega)
    · refine G_iconst hC dX9_stuck_24 ?_
      refine G_goto (tgt := 29) hC dX9_stuck_25 (by decide) ?_
      exact G_iret hC hQ dX9_stuck_29 ⟨_, rfl, by unfold stuckF; rw [← b2, if_pos q3], z1, z2, PX.refl⟩
  · rw [chg_ok hL.1 b1] at q3
    refine G_if_eq (tgt := 28) hC dX9_stuck_21 (by decide) (by omega) (fun c21 => ?_) (fun c21 => ?_)
    · refine G_iconst hC dX9_stuck_28 ?_
      exact G_iret hC hQ dX9_stuck_29 ⟨_, rfl, by unfold stuckF; rw [← b2, if_neg q3], z1, z2, PX.refl⟩
    · exact absurd rfl c21
def holdR (S : AS) (i r : Int) : Prop := if 0 ≤ i ∧ i ≤ 1 then ∃ a b, hoR (sT S) (sW S) (enc (sNow S).1) a b ∧ r = (if i = 0 then a else b) else r = -1
def lkR (S : AS) (N : Nat) (lq : Nat → Nat) : Prop := LQ (tn (sT S)) (sF0 S) N lq ∧ N ≤ 720 ∧ (∀ a b, a < N → b < N → lq a = lq b → a = b)
theorem LyS.lk {M : Mem} {S : AS} {N : Nat} {lq : Nat → Nat} (h : LyS M S N lq) : lkR S N lq := ⟨h.2.1, h.1.2.1.2.2.1, fun _ _ ha hb e => h.1.2.1.inj ha hb e⟩
set_option maxHeartbeats 4000000 in
set_option maxRecDepth 100000 in
theorem c_X9_holdsUp {l : Launch} {c : Nat} {S : AS} {i : Int} {M : Mem} {P : PMem} (hI : CIv c M P S) (hi : i32r i) : CtI l yX9_holdsUp cX9_holdsUp 2 (some .int) 7 188 45 [vR 0, vI i] M P (cQ c M P S (holdR S i)) := by
  refine Ct_of (own := RX9) (L := [vR 0, vI i]) (by decide) rfl rfl (Nat.le_of_ble_eq_true rfl) (fun X Y hl hC hQ => ?_)
  obtain ⟨⟨hGr, wa, wb, hw, hwa, hwb⟩, hS, hA, hT, hF, N, lq, hL⟩ := id hI
  obtain ⟨s1, ⟨s2, s3, s4, s5, s6, s7, s8⟩, ⟨s9, s10, s11, s12⟩, s13, s14, s15, s16, s17, s18⟩ := id hS
  obtain ⟨m1, m2, m3, m4⟩ := id s14
  obtain ⟨f1, f2, f3, f4⟩ := id hF
  obtain ⟨t1, t2, t3, t4, t5⟩ := id hT
  obtain ⟨i1, i2, i3, i4⟩ := id hL.1
  obtain ⟨hR0, hR2, hR6, hRr, hRr1, hRk, hRw⟩ := id i1
  have hT8 : isT 8 := Or.inr (Or.inl rfl)
  have hlo := m1.lo
  obtain ⟨l0, b1, b2, b3⟩ := hL.num hlo m2
  have hgd := hL.good hS (T' := sT S) rfl
  have hN := i2.2.2.1
  have hlo0 : lo8 (sF0 S) := fun i => by rcases s9 i with q | q <;> omega
  unfold i32r at *
  have hlie := LQ_lie s9 hL.2.1
  by_cases hy : 0 ≤ i ∧ i ≤ 1
  · obtain ⟨hy1, hy2⟩ := id hy
    refine G_il1 hC dX9_holdsUp_0 ?_
    refine G_if_lt (tgt := 9) hC dX9_holdsUp_1 (by decide) (by omega) (fun c1 => ?_) (fun c1 => ?_)
    · exact absurd c1 (by omega)
    · refine G_il1 hC dX9_holdsUp_4 ?_
      refine G_iconst hC dX9_holdsUp_5 ?_
      refine G_icmp_le (tgt := 11) hC dX9_holdsUp_6 (by decide) (by omega) (by omega) (fun c6 => ?_) (fun c6 => ?_)
      · refine G_al0 hC dX9_holdsUp_11 ?_
        refine G_callVV hC (c_X9_lookAhead hI hL b1 b2) mv_X9_199 (by first | assumption | rfl) (by omega) (by decide) rfl (by decide) dX9_holdsUp_12 rfl (Nat.le_of_ble_eq_true rfl) rfl (fun M12 P12 h12 => ?_)
        obtain ⟨rfl, k1, k2, m, k3⟩ := h12
        have hSI2 : SI M12 15 8 4320 (sT S) N lq := SI_x hL.1 (fun a ha b => k1 a (by unfold seS; omega) b)
        have hT52 : M12 8 5 = (enc (sF0 S) : Int) := by rw [k1 8 (by unfold seS; omega)]; exact t5
        have hW2 : TabW M12 8 (sW S) := fun g hg => by rw [k1 10 (by unfold seS; omega)]; exact t1 g hg
        have hWh2 : WhI M12 (sT S) (sW S) N lq := WhI_x hL.2.2.2 (k1 25 (by unfold seS; omega))
        have hWI : WI M12 (sT S) (sW S) N lq l0 := ⟨hSI2, hW2, fun T' hT' => (hL.good hS hT').2.2.1, hlie, b1, k2, m, k3⟩
        have hrg : 0 ≤ M12 25 2 ∧ M12 25 2 ≤ 1023 := by
          rcases hWh2.1 with q | ⟨l1, q1, q2, -⟩ <;> omega
        by_cases hsm : M12 25 2 = (l0 : Int)
        · have hho : hoR (sT S) (sW S) (lq l0) (M12 25 0) (M12 25 1) := by
            rcases hWh2.1 with q | ⟨l1, q1, q2, q3⟩
            · omega
            · have : l1 = l0 := by omega
              rw [← this]; exact q3
          have hx : eqx sLk M M12 := k1.mono (fun a ha => by unfold seS at ha; unfold sLk; omega)
          obtain ⟨z1, z2⟩ := CIv_up hI hL ⟨hGr, wa, wb, hw, hwa, hwb⟩ hx hSI2 (Or.inr ⟨l0, m, b1, k2, k3⟩) hWh2
          refine G_al0 hC dX9_holdsUp_15 ?_
          refine G_getR hC fl_X9_69 (by first | assumption | rfl) (by omega) (by first | assumption | exact hGr _ _ _ rfl) dX9_holdsUp_16 ?_
          refine G_callVV hC (c_X8_findSame hGr k2 hsm (by omega)) mv_X9_237 (by first | assumption | rfl) (by omega) (by decide) rfl (by decide) dX9_holdsUp_19 rfl (Nat.le_of_ble_eq_true rfl) rfl (fun M19 P19 h19 => ?_)
          obtain ⟨rfl, rfl⟩ := h19
          refine G_il1 hC dX9_holdsUp_22 ?_
          refine G_if_ne (tgt := 36) hC dX9_holdsUp_23 (by decide) (by omega) (fun c23 => ?_) (fun c23 => ?_)
          · refine G_al0 hC dX9_holdsUp_36 ?_
            refine G_getR hC fl_X9_69 (by first | assumption | rfl) (by omega) (by first | assumption | exact hGr _ _ _ rfl) dX9_holdsUp_37 ?_
            refine G_getI hC fl_X9_243 (by first | assumption | rfl) (by omega) dX9_holdsUp_40 ?_
            exact G_iret hC hQ dX9_holdsUp_43 ⟨_, rfl, by unfold holdR; rw [if_pos hy]; exact ⟨_, _, by rw [← b2]; exact hho, by first | (rw [if_pos (by omega)]; done) | (rw [if_neg (by omega)]; done)⟩, z1, z2, PX.refl⟩
          · refine G_al0 hC dX9_holdsUp_26 ?_
            refine G_getR hC fl_X9_69 (by first | assumption | rfl) (by omega) (by first | assumption | exact hGr _ _ _ rfl) dX9_holdsUp_27 ?_
            refine G_getI hC fl_X9_240 (by first | assumption | rfl) (by omega) dX9_holdsUp_30 ?_
            refine G_goto (tgt := 43) hC dX9_holdsUp_33 (by decide) ?_
            exact G_iret hC hQ dX9_holdsUp_43 ⟨_, rfl, by unfold holdR; rw [if_pos hy]; exact ⟨_, _, by rw [← b2]; exact hho, by first | (rw [if_pos (by omega)]; done) | (rw [if_neg (by omega)]; done)⟩, z1, z2, PX.refl⟩
        · refine G_al0 hC dX9_holdsUp_15 ?_
          refine G_getR hC fl_X9_69 (by first | assumption | rfl) (by omega) (by first | assumption | exact hGr _ _ _ rfl) dX9_holdsUp_16 ?_
          refine G_callVV hC (c_X8_findHolder hGr hWI hsm hrg) mv_X9_237 (by first | assumption | rfl) (by omega) (by decide) rfl (by decide) dX9_holdsUp_19 rfl (Nat.le_of_ble_eq_true rfl) rfl (fun M19 P19 h19 => ?_)
          obtain ⟨rfl, p1, p2, p3, p4, p5, p6⟩ := h19
          have hho : hoR (sT S) (sW S) (lq l0) (M19 25 0) (M19 25 1) := p6
          have hx : eqx sLk M M19 := (k1.mono (fun a ha => by unfold seS at ha; unfold sLk; omega)).trans (p2.mono (fun a ha => by unfold fhX seX oth at ha; unfold sLk; omega))
          obtain ⟨p7, p8, p9, p10, p11, p12, m', p13⟩ := p1
          obtain ⟨z1, z2⟩ := CIv_up hI hL ⟨hGr, wa, wb, hw, hwa, hwb⟩ hx p7 (Or.inr ⟨l0, m', b1, p12, p13⟩) ⟨Or.inr ⟨l0, b1, p3, hho⟩, by rw [p4, p5]; exact hWh2.2⟩
          refine G_il1 hC dX9_holdsUp_22 ?_
          refine G_if_ne (tgt := 36) hC dX9_holdsUp_23 (by decide) (by omega) (fun c23 => ?_) (fun c23 => ?_)
          · refine G_al0 hC dX9_holdsUp_36 ?_
            refine G_getR hC fl_X9_69 (by first | assumption | rfl) (by omega) (by first | assumption | exact hGr _ _ _ rfl) dX9_holdsUp_37 ?_
            refine G_getI hC fl_X9_243 (by first | assumption | rfl) (by omega) dX9_holdsUp_40 ?_
            exact G_iret hC hQ dX9_holdsUp_43 ⟨_, rfl, by unfold holdR; rw [if_pos hy]; exact ⟨_, _, by rw [← b2]; exact hho, by first | (rw [if_pos (by omega)]; done) | (rw [if_neg (by omega)]; done)⟩, z1, z2, PX.refl⟩
          · refine G_al0 hC dX9_holdsUp_26 ?_
            refine G_getR hC fl_X9_69 (by first | assumption | rfl) (by omega) (by first | assumption | exact hGr _ _ _ rfl) dX9_holdsUp_27 ?_
            refine G_getI hC fl_X9_240 (by first | assumption | rfl) (by omega) dX9_holdsUp_30 ?_
            refine G_goto (tgt := 43) hC dX9_holdsUp_33 (by decide) ?_
            exact G_iret hC hQ dX9_holdsUp_43 ⟨_, rfl, by unfold holdR; rw [if_pos hy]; exact ⟨_, _, by rw [← b2]; exact hho, by first | (rw [if_pos (by omega)]; done) | (rw [if_neg (by omega)]; done)⟩, z1, z2, PX.refl⟩
      · exact absurd c6 (by omega)
  · have hno := hy
    refine G_il1 hC dX9_holdsUp_0 ?_
    refine G_if_lt (tgt := 9) hC dX9_holdsUp_1 (by decide) (by omega) (fun c1 => ?_) (fun c1 => ?_)
    · refine G_iconst hC dX9_holdsUp_9 ?_
      exact G_iret hC hQ dX9_holdsUp_10 ⟨_, rfl, by unfold holdR; rw [if_neg hno], hI, eqx.refl, PX.refl⟩
    · refine G_il1 hC dX9_holdsUp_4 ?_
      refine G_iconst hC dX9_holdsUp_5 ?_
      refine G_icmp_le (tgt := 11) hC dX9_holdsUp_6 (by decide) (by omega) (by omega) (fun c6 => ?_) (fun c6 => ?_)
      · exact absurd ⟨by omega, by omega⟩ hy
      · refine G_iconst hC dX9_holdsUp_9 ?_
        exact G_iret hC hQ dX9_holdsUp_10 ⟨_, rfl, by unfold holdR; rw [if_neg hno], hI, eqx.refl, PX.refl⟩
def seatR (S : AS) (r : Int) : Prop := ∃ N lq, lkR S N lq ∧ seR (sT S) (sW S) N lq (enc (sNow S).1) r
set_option maxHeartbeats 4000000 in
set_option maxRecDepth 100000 in
theorem c_X9_seats {l : Launch} {c : Nat} {S : AS} {M : Mem} {P : PMem} (hI : CIv c M P S)  : CtI l yX9_seats cX9_seats 1 (some .int) 7 185 45 [vR 0] M P (cQ c M P S (seatR S)) := by
  refine Ct_of (own := RX9) (L := [vR 0]) (by decide) rfl rfl (Nat.le_of_ble_eq_true rfl) (fun X Y hl hC hQ => ?_)
  obtain ⟨⟨hGr, wa, wb, hw, hwa, hwb⟩, hS, hA, hT, hF, N, lq, hL⟩ := id hI
  obtain ⟨s1, ⟨s2, s3, s4, s5, s6, s7, s8⟩, ⟨s9, s10, s11, s12⟩, s13, s14, s15, s16, s17, s18⟩ := id hS
  obtain ⟨m1, m2, m3, m4⟩ := id s14
  obtain ⟨f1, f2, f3, f4⟩ := id hF
  obtain ⟨t1, t2, t3, t4, t5⟩ := id hT
  obtain ⟨i1, i2, i3, i4⟩ := id hL.1
  obtain ⟨hR0, hR2, hR6, hRr, hRr1, hRk, hRw⟩ := id i1
  have hT8 : isT 8 := Or.inr (Or.inl rfl)
  have hlo := m1.lo
  obtain ⟨l0, b1, b2, b3⟩ := hL.num hlo m2
  have hgd := hL.good hS (T' := sT S) rfl
  have hN := i2.2.2.1
  have hlo0 : lo8 (sF0 S) := fun i => by rcases s9 i with q | q <;> omega
  have hlie := LQ_lie s9 hL.2.1
  refine G_al0 hC dX9_seats_0 ?_
  refine G_callVV hC (c_X9_lookAhead hI hL b1 b2) mv_X9_199 (by first | assumption | rfl) (by omega) (by decide) rfl (by decide) dX9_seats_1 rfl (Nat.le_of_ble_eq_true rfl) rfl (fun M1 P1 h1 => ?_)
  obtain ⟨rfl, k1, k2, m, k3⟩ := h1
  have hSI2 : SI M1 15 8 4320 (sT S) N lq := SI_x hL.1 (fun a ha b => k1 a (by unfold seS; omega) b)
  have hT52 : M1 8 5 = (enc (sF0 S) : Int) := by rw [k1 8 (by unfold seS; omega)]; exact t5
  have hW2 : TabW M1 8 (sW S) := fun g hg => by rw [k1 10 (by unfold seS; omega)]; exact t1 g hg
  have hWh2 : WhI M1 (sT S) (sW S) N lq := WhI_x hL.2.2.2 (k1 25 (by unfold seS; omega))
  have hWI : WI M1 (sT S) (sW S) N lq l0 := ⟨hSI2, hW2, fun T' hT' => (hL.good hS hT').2.2.1, hlie, b1, k2, m, k3⟩
  have hrg : 0 ≤ M1 25 4 ∧ M1 25 4 ≤ 1023 := by
    rcases hWh2.2 with q | ⟨l1, q1, q2, -⟩ <;> omega
  by_cases hsm : M1 25 4 = (l0 : Int)
  · have hho : seR (sT S) (sW S) N lq (lq l0) (M1 25 3) := by
      rcases hWh2.2 with q | ⟨l1, q1, q2, q3⟩
      · omega
      · have : l1 = l0 := by omega
        rw [← this]; exact q3
    have hx : eqx sLk M M1 := k1.mono (fun a ha => by unfold seS at ha; unfold sLk; omega)
    obtain ⟨z1, z2⟩ := CIv_up hI hL ⟨hGr, wa, wb, hw, hwa, hwb⟩ hx hSI2 (Or.inr ⟨l0, m, b1, k2, k3⟩) hWh2
    refine G_al0 hC dX9_seats_4 ?_
    refine G_getR hC fl_X9_69 (by first | assumption | rfl) (by omega) (by first | assumption | exact hGr _ _ _ rfl) dX9_seats_5 ?_
    refine G_callVI hC (c_X8_bestSame hGr k2 hsm (by omega)) mv_X9_258 (by first | assumption | rfl) (by omega) (by decide) rfl (by decide) dX9_seats_8 rfl (Nat.le_of_ble_eq_true rfl) rfl (fun z8 M8 P8 h8 => ?_)
    obtain ⟨rfl, rfl, rfl⟩ := h8
    exact G_iret hC hQ dX9_seats_11 ⟨_, rfl, ⟨N, lq, hL.lk, by rw [← b2]; exact hho⟩, z1, z2, PX.refl⟩
  · refine G_al0 hC dX9_seats_4 ?_
    refine G_getR hC fl_X9_69 (by first | assumption | rfl) (by omega) (by first | assumption | exact hGr _ _ _ rfl) dX9_seats_5 ?_
    refine G_callVI hC (c_X8_bestSeats hGr hWI hsm hrg) mv_X9_258 (by first | assumption | rfl) (by omega) (by decide) rfl (by decide) dX9_seats_8 rfl (Nat.le_of_ble_eq_true rfl) rfl (fun z8 M8 P8 h8 => ?_)
    obtain ⟨rfl, p1, p2, p3, p4, p5, p6, p60, p61⟩ := h8
    have hho : seR (sT S) (sW S) N lq (lq l0) z8 := p61
    have hx : eqx sLk M M8 := (k1.mono (fun a ha => by unfold seS at ha; unfold sLk; omega)).trans (p2.mono (fun a ha => by unfold fhX seX oth at ha; unfold sLk; omega))
    obtain ⟨p7, p8, p9, p10, p11, p12, m', p13⟩ := p1
    obtain ⟨z1, z2⟩ := CIv_up hI hL ⟨hGr, wa, wb, hw, hwa, hwb⟩ hx p7 (Or.inr ⟨l0, m', b1, p12, p13⟩) ⟨by rw [p4, p5, p6]; exact hWh2.1, Or.inr ⟨l0, b1, p3, by rw [p60]; exact hho⟩⟩
    exact G_iret hC hQ dX9_seats_11 ⟨_, rfl, ⟨N, lq, hL.lk, by rw [← b2]; exact hho⟩, z1, z2, PX.refl⟩
def priceR (S : AS) (i d r : Int) : Prop := (isG S i ∧ isD S d → (sFrom (sNow S).1 d 6 0 < 0 ∧ r = -4) ∨ (¬ sFrom (sNow S).1 d 6 0 < 0 ∧ ∃ N lq mf l0, lkR S N lq ∧ MFo (sT S) N lq mf ∧ l0 < N ∧ lq l0 = enc (sNow S).1 ∧ r = lpR (sT S) mf lq N i.toNat d.toNat l0 (sSv S))) ∧ (¬ (isG S i ∧ isD S d) → r = -1)
set_option maxHeartbeats 4000000 in
set_option maxRecDepth 100000 in
theorem c_X9_price {l : Launch} {c : Nat} {S : AS} {i d : Int} {M : Mem} {P : PMem} (hI : CIv c M P S) (hi : i32r i) (hd0 : i32r d) : CtI l yX9_price cX9_price 3 (some .int) 6 161 45 [vR 0, vI i, vI d] M P (cQ c M P S (priceR S i d)) := by
  refine Ct_of (own := RX9) (L := [vR 0, vI i, vI d]) (by decide) rfl rfl (Nat.le_of_ble_eq_true rfl) (fun X Y hl hC hQ => ?_)
  obtain ⟨⟨hGr, wa, wb, hw, hwa, hwb⟩, hS, hA, hT, hF, N, lq, hL⟩ := id hI
  obtain ⟨s1, ⟨s2, s3, s4, s5, s6, s7, s8⟩, ⟨s9, s10, s11, s12⟩, s13, s14, s15, s16, s17, s18⟩ := id hS
  obtain ⟨m1, m2, m3, m4⟩ := id s14
  obtain ⟨f1, f2, f3, f4⟩ := id hF
  obtain ⟨t1, t2, t3, t4, t5⟩ := id hT
  obtain ⟨i1, i2, i3, i4⟩ := id hL.1
  obtain ⟨hR0, hR2, hR6, hRr, hRr1, hRk, hRw⟩ := id i1
  have hT8 : isT 8 := Or.inr (Or.inl rfl)
  have hlo := m1.lo
  obtain ⟨l0, b1, b2, b3⟩ := hL.num hlo m2
  have hgd := hL.good hS (T' := sT S) rfl
  have hN := i2.2.2.1
  have hlo0 : lo8 (sF0 S) := fun i => by rcases s9 i with q | q <;> omega
  unfold i32r at *
  by_cases hg : isG S i
  · by_cases hd : isD S d
    · obtain ⟨g, rfl⟩ : ∃ g : Nat, i = (g : Int) := ⟨i.toNat, by have := hg.1; omega⟩
      obtain ⟨e, rfl⟩ : ∃ e : Nat, d = (e : Int) := ⟨d.toNat, by have := hd.1; omega⟩
      have hg2 := hg.2
      have hd2 := hd.2
      have hsr := sFrom_r (sNow S).1 e 6 0
      refine G_al0 hC dX9_price_0 ?_
      refine G_il1 hC dX9_price_1 ?_
      refine G_callVI hC (c_X9_isGuest1 hI (by unfold i32r; omega) hg) mv_X9_154 (by first | assumption | rfl) (by omega) (by decide) rfl (by decide) dX9_price_2 rfl (Nat.le_of_ble_eq_true rfl) rfl (fun z2 M2 P2 h2 => ?_)
      obtain ⟨rfl, rfl, rfl⟩ := h2
      refine G_if_eq (tgt := 16) hC dX9_price_5 (by decide) (by omega) (fun c5 => ?_) (fun c5 => ?_)
      · exact absurd c5 (by omega)
      · refine G_al0 hC dX9_price_8 ?_
        refine G_il2 hC dX9_price_9 ?_
        refine G_callVI hC (c_X9_isDish1 hI (by unfold i32r; omega) hd) mv_X9_171 (by first | assumption | rfl) (by omega) (by decide) rfl (by decide) dX9_price_10 rfl (Nat.le_of_ble_eq_true rfl) rfl (fun z10 M10 P10 h10 => ?_)
        obtain ⟨rfl, rfl, rfl⟩ := h10
        refine G_if_ne (tgt := 18) hC dX9_price_13 (by decide) (by omega) (fun c13 => ?_) (fun c13 => ?_)
        · refine G_al0 hC dX9_price_18 ?_
          refine G_getR hC fl_X9_76 (by first | assumption | rfl) (by omega) (by first | assumption | exact hGr _ _ _ rfl) dX9_price_19 ?_
          refine G_getI hC fl_X9_137 (by first | assumption | rfl) (by omega) dX9_price_22 ?_
          rw [f1.1]
          refine G_il2 hC dX9_price_25 ?_
          refine G_callSI hC (c_X9_seatOf hlo (by omega)) ms_X9_208 (by decide) rfl (by decide) dX9_price_26 rfl (Nat.le_of_ble_eq_true rfl) rfl (fun z26 M26 P26 h26 => ?_)
          obtain ⟨rfl, rfl, rfl⟩ := h26
          refine G_if_ge (tgt := 35) hC dX9_price_29 (by decide) (by omega) (fun c29 => ?_) (fun c29 => ?_)
          · refine G_al0 hC dX9_price_35 ?_
            refine G_getR hC fl_X9_60 (by first | assumption | rfl) (by omega) (by first | assumption | exact hGr _ _ _ rfl) dX9_price_36 ?_
            refine G_al0 hC dX9_price_39 ?_
            refine G_getR hC fl_X9_35 (by first | assumption | rfl) (by omega) (by first | assumption | exact hGr _ _ _ rfl) dX9_price_40 ?_
            refine G_al0 hC dX9_price_43 ?_
            refine G_getR hC fl_X9_76 (by first | assumption | rfl) (by omega) (by first | assumption | exact hGr _ _ _ rfl) dX9_price_44 ?_
            refine G_getI hC fl_X9_137 (by first | assumption | rfl) (by omega) dX9_price_47 ?_
            rw [f1.1]
            refine G_callVI hC (c_X0_numberOf hGr i2.1 (enc_lt hlo)) mv_X9_211 (by first | assumption | rfl) (by omega) (by decide) rfl (by decide) dX9_price_50 rfl (Nat.le_of_ble_eq_true rfl) rfl (fun z50 M50 P50 h50 => ?_)
            obtain ⟨rfl, rfl, rfl⟩ := h50
            rw [b3]
            refine G_il1 hC dX9_price_53 ?_
            refine G_il2 hC dX9_price_54 ?_
            refine G_callVI hC (c_X6_leastPrice (g := g) (d := e) hGr hL.1 b1 (by omega) (by omega) t3 s4) mv_X9_214 (by first | assumption | rfl) (by omega) (by decide) rfl (by decide) dX9_price_55 rfl (Nat.le_of_ble_eq_true rfl) rfl (fun z55 M55 P55 h55 => ?_)
            skip
            obtain ⟨rfl, q1, q2, q3⟩ := h55
            have hx : eqx sLk M M55 := q2.mono (fun a ha => by unfold s22 at ha; unfold sLk; omega)
            obtain ⟨z1, z2⟩ := CIv_up hI hL ⟨hGr, wa, wb, hw, hwa, hwb⟩ hx q1 (SrI_x hL.2.2.1 (fun a ha b => q2 a (by unfold s22; omega) b)) (WhI_x hL.2.2.2 (q2 25 (by unfold s22; omega)))
            exact G_iret hC hQ dX9_price_58 ⟨_, rfl, ⟨fun _ => Or.inr ⟨by omega, N, lq, _, l0, hL.lk, SI_mf hL.1, b1, b2, q3⟩, fun z => absurd ⟨hg, hd⟩ z⟩, z1, z2, PX.refl⟩
          · refine G_bipush hC dX9_price_32 (by decide) ?_
            exact G_iret hC hQ dX9_price_34 ⟨_, rfl, ⟨fun _ => Or.inl ⟨by omega, rfl⟩, fun z => absurd ⟨hg, hd⟩ z⟩, hI, eqx.refl, PX.refl⟩
        · exact absurd c13 (by omega)
    · have hno : ¬ (isG S i ∧ isD S d) := fun z => hd z.2
      refine G_al0 hC dX9_price_0 ?_
      refine G_il1 hC dX9_price_1 ?_
      refine G_callVI hC (c_X9_isGuest1 hI (by unfold i32r; omega) hg) mv_X9_154 (by first | assumption | rfl) (by omega) (by decide) rfl (by decide) dX9_price_2 rfl (Nat.le_of_ble_eq_true rfl) rfl (fun z2 M2 P2 h2 => ?_)
      obtain ⟨rfl, rfl, rfl⟩ := h2
      refine G_if_eq (tgt := 16) hC dX9_price_5 (by decide) (by omega) (fun c5 => ?_) (fun c5 => ?_)
      · exact absurd c5 (by omega)
      · refine G_al0 hC dX9_price_8 ?_
        refine G_il2 hC dX9_price_9 ?_
        refine G_callVI hC (c_X9_isDish0 hI (by unfold i32r; omega) hd) mv_X9_171 (by first | assumption | rfl) (by omega) (by decide) rfl (by decide) dX9_price_10 rfl (Nat.le_of_ble_eq_true rfl) rfl (fun z10 M10 P10 h10 => ?_)
        obtain ⟨rfl, rfl, rfl⟩ := h10
        refine G_if_ne (tgt := 18) hC dX9_price_13 (by decide) (by omega) (fun c13 => ?_) (fun c13 => ?_)
        · exact absurd rfl c13
        · refine G_iconst hC dX9_price_16 ?_
          exact G_iret hC hQ dX9_price_17 ⟨_, rfl, ⟨fun z => absurd z hno, fun _ => rfl⟩, hI, eqx.refl, PX.refl⟩
  · have hno : ¬ (isG S i ∧ isD S d) := fun z => hg z.1
    refine G_al0 hC dX9_price_0 ?_
    refine G_il1 hC dX9_price_1 ?_
    refine G_callVI hC (c_X9_isGuest0 hI (by unfold i32r; omega) hg) mv_X9_154 (by first | assumption | rfl) (by omega) (by decide) rfl (by decide) dX9_price_2 rfl (Nat.le_of_ble_eq_true rfl) rfl (fun z2 M2 P2 h2 => ?_)
    obtain ⟨rfl, rfl, rfl⟩ := h2
    refine G_if_eq (tgt := 16) hC dX9_price_5 (by decide) (by omega) (fun c5 => ?_) (fun c5 => ?_)
    · refine G_iconst hC dX9_price_16 ?_
      exact G_iret hC hQ dX9_price_17 ⟨_, rfl, ⟨fun z => absurd z hno, fun _ => rfl⟩, hI, eqx.refl, PX.refl⟩
    · exact absurd rfl c5
def wentR (S : AS) (i r : Int) : Prop := (0 ≤ i ∧ i ≤ 8 → ∃ N lq mf l0 l1, lkR S N lq ∧ MFo (sT S) N lq mf ∧ l0 < N ∧ lq l0 = enc (sF0 S) ∧ l1 < N ∧ lq l1 = enc (sNow S).1 ∧ r = wyN (tn (sT S)) mf i.toNat (wy0 l0) l1) ∧ (¬ (0 ≤ i ∧ i ≤ 8) → r = -1)
set_option maxHeartbeats 4000000 in
set_option maxRecDepth 100000 in
theorem c_X9_went {l : Launch} {c : Nat} {S : AS} {i : Int} {M : Mem} {P : PMem} (hI : CIv c M P S) (hi : i32r i) : CtL l yX9_went cX9_went 2 (some .long) 6 161 45 [vR 0, vI i] M P (cQ c M P S (wentR S i)) := by
  refine Ct_of (own := RX9) (L := [vR 0, vI i]) (by decide) rfl rfl (Nat.le_of_ble_eq_true rfl) (fun X Y hl hC hQ => ?_)
  obtain ⟨⟨hGr, wa, wb, hw, hwa, hwb⟩, hS, hA, hT, hF, N, lq, hL⟩ := id hI
  obtain ⟨s1, ⟨s2, s3, s4, s5, s6, s7, s8⟩, ⟨s9, s10, s11, s12⟩, s13, s14, s15, s16, s17, s18⟩ := id hS
  obtain ⟨m1, m2, m3, m4⟩ := id s14
  obtain ⟨f1, f2, f3, f4⟩ := id hF
  obtain ⟨t1, t2, t3, t4, t5⟩ := id hT
  obtain ⟨i1, i2, i3, i4⟩ := id hL.1
  obtain ⟨hR0, hR2, hR6, hRr, hRr1, hRk, hRw⟩ := id i1
  have hT8 : isT 8 := Or.inr (Or.inl rfl)
  have hlo := m1.lo
  obtain ⟨l0, b1, b2, b3⟩ := hL.num hlo m2
  have hgd := hL.good hS (T' := sT S) rfl
  have hN := i2.2.2.1
  have hlo0 : lo8 (sF0 S) := fun i => by rcases s9 i with q | q <;> omega
  unfold i32r at *
  by_cases hy : 0 ≤ i ∧ i ≤ 8
  · obtain ⟨g, rfl⟩ : ∃ g : Nat, i = (g : Int) := ⟨i.toNat, by omega⟩
    obtain ⟨l00, d1, d2, d3⟩ := hL.num hlo0 ⟨fun i h _ => s10 i h, fun _ => rfl⟩
    refine G_il1 hC dX9_went_0 ?_
    refine G_if_lt (tgt := 10) hC dX9_went_1 (by decide) (by omega) (fun c1 => ?_) (fun c1 => ?_)
    · exact absurd c1 (by omega)
    · refine G_il1 hC dX9_went_4 ?_
      refine G_bipush hC dX9_went_5 (by decide) ?_
      refine G_icmp_le (tgt := 14) hC dX9_went_7 (by decide) (by omega) (by omega) (fun c7 => ?_) (fun c7 => ?_)
      · refine G_al0 hC dX9_went_14 ?_
        refine G_getR hC fl_X9_60 (by first | assumption | rfl) (by omega) (by first | assumption | exact hGr _ _ _ rfl) dX9_went_15 ?_
        refine G_al0 hC dX9_went_18 ?_
        refine G_getR hC fl_X9_35 (by first | assumption | rfl) (by omega) (by first | assumption | exact hGr _ _ _ rfl) dX9_went_19 ?_
        refine G_al0 hC dX9_went_22 ?_
        refine G_getR hC fl_X9_29 (by first | assumption | rfl) (by omega) (by first | assumption | exact hGr _ _ _ rfl) dX9_went_23 ?_
        refine G_getI hC fl_X9_125 (by first | assumption | rfl) (by omega) dX9_went_26 ?_
        rw [t5]
        refine G_callVI hC (c_X0_numberOf hGr i2.1 (enc_lt hlo0)) mv_X9_211 (by first | assumption | rfl) (by omega) (by decide) rfl (by decide) dX9_went_29 rfl (Nat.le_of_ble_eq_true rfl) rfl (fun z29 M29 P29 h29 => ?_)
        obtain ⟨rfl, rfl, rfl⟩ := h29
        rw [d3]
        refine G_al0 hC dX9_went_32 ?_
        refine G_getR hC fl_X9_35 (by first | assumption | rfl) (by omega) (by first | assumption | exact hGr _ _ _ rfl) dX9_went_33 ?_
        refine G_al0 hC dX9_went_36 ?_
        refine G_getR hC fl_X9_76 (by first | assumption | rfl) (by omega) (by first | assumption | exact hGr _ _ _ rfl) dX9_went_37 ?_
        refine G_getI hC fl_X9_137 (by first | assumption | rfl) (by omega) dX9_went_40 ?_
        rw [f1.1]
        refine G_callVI hC (c_X0_numberOf hGr i2.1 (enc_lt hlo)) mv_X9_211 (by first | assumption | rfl) (by omega) (by decide) rfl (by decide) dX9_went_43 rfl (Nat.le_of_ble_eq_true rfl) rfl (fun z43 M43 P43 h43 => ?_)
        obtain ⟨rfl, rfl, rfl⟩ := h43
        rw [b3]
        refine G_il1 hC dX9_went_46 ?_
        refine G_callVL hC (c_X6_rowsBetween (nn := g) hGr hw hwa hwb hL.1 d1 b1 (by omega)) mv_X9_261 (by first | assumption | rfl) (by omega) (by decide) rfl (by decide) dX9_went_47 rfl (Nat.le_of_ble_eq_true rfl) rfl (fun z47 M47 P47 h47 => ?_)
        skip
        obtain ⟨q0, q1, q2, q3⟩ := h47
        have hx : eqx sLk M M47 := q2.mono (fun a ha => by unfold sWX at ha; unfold sLk; omega)
        obtain ⟨z1, z2⟩ := CIv_up hI hL ⟨q0.1, q0.2.1⟩ hx q1 (SrI_x hL.2.2.1 (fun a ha b => q2 a (by unfold sWX; omega) b)) (WhI_x hL.2.2.2 (q2 25 (by unfold sWX; omega)))
        exact G_lret hC hQ dX9_went_50 ⟨_, rfl, ⟨fun _ => ⟨N, lq, _, l00, l0, hL.lk, SI_mf hL.1, d1, d2, b1, b2, q3⟩, fun z => absurd hy z⟩, z1, z2, fun k j hk => q0.2.2 k j (by omega)⟩
      · exact absurd c7 (by omega)
  · refine G_il1 hC dX9_went_0 ?_
    refine G_if_lt (tgt := 10) hC dX9_went_1 (by decide) (by omega) (fun c1 => ?_) (fun c1 => ?_)
    · refine G_ldc2 (z := -1) hC kl_X9_228 (by decide) dX9_went_10 ?_
      exact G_lret hC hQ dX9_went_13 ⟨_, rfl, ⟨fun z => absurd z hy, fun _ => rfl⟩, hI, eqx.refl, PX.refl⟩
    · refine G_il1 hC dX9_went_4 ?_
      refine G_bipush hC dX9_went_5 (by decide) ?_
      refine G_icmp_le (tgt := 14) hC dX9_went_7 (by decide) (by omega) (by omega) (fun c7 => ?_) (fun c7 => ?_)
      · exact absurd ⟨by omega, by omega⟩ hy
      · refine G_ldc2 (z := -1) hC kl_X9_228 (by decide) dX9_went_10 ?_
        exact G_lret hC hQ dX9_went_13 ⟨_, rfl, ⟨fun z => absurd z hy, fun _ => rfl⟩, hI, eqx.refl, PX.refl⟩
def moF (T : TB) (co : Int) (lq : Nat → Nat) : Nat → Int
  | 0 => 0
  | k + 1 => max (moF T co lq k) (wTog T co 0 (dgf (lq k)) (tn T))
def mostR (S : AS) (r : Int) : Prop := ∃ N lq, lkR S N lq ∧ r = moF (sT S) (sCo S) lq N
theorem wAt_r {T : TB} {c m : Int} {g d : Nat} (hw : wo T g d ≤ 9) (hc : 0 ≤ c * m) : 0 ≤ wAt T c m g d ∧ wAt T c m g d ≤ 9 := by
  unfold wAt
  have := mul_rng (a := (wo T g d : Int)) (b := max 0 (10 - c * m)) (A := 9) (B := 10) (by omega) (by omega)
  omega
theorem wTog_r {T : TB} {c m : Int} {f : Nat → Nat} (hw : ∀ g d, g < 6 → wo T g d ≤ 9) (hc : 0 ≤ c * m) : ∀ k, k ≤ 6 → 0 ≤ wTog T c m f k ∧ wTog T c m f k ≤ 9 * k
  | 0, _ => by unfold wTog; omega
  | k + 1, h => by
    have a := wTog_r (T := T) (f := f) hw hc k (by omega)
    have b := wAt_r (T := T) (g := k) (d := f k) (hw k (f k) (by omega)) hc
    unfold wTog
    omega
theorem moF_r {T : TB} {co : Int} {lq : Nat → Nat} (hw : ∀ g d, g < 6 → wo T g d ≤ 9) (hn : tn T ≤ 6) : ∀ k, 0 ≤ moF T co lq k ∧ moF T co lq k ≤ 54
  | 0 => by unfold moF; omega
  | k + 1 => by
    have a := moF_r (T := T) (co := co) (lq := lq) hw hn k
    have b := wTog_r (T := T) (c := co) (m := 0) (f := dgf (lq k)) hw (by omega) (tn T) hn
    unfold moF
    omega
set_option maxHeartbeats 4000000 in
set_option maxRecDepth 100000 in
theorem c_X9_most {l : Launch} {c : Nat} {S : AS} {M : Mem} {P : PMem} (hI : CIv c M P S)  : CtI l yX9_most cX9_most 3 (some .int) 3 69 45 [vR 0] M P (cQ c M P S (mostR S)) := by
  refine Ct_of (own := RX9) (L := [vR 0, vX 1, vX 1]) (by decide) rfl rfl (Nat.le_of_ble_eq_true rfl) (fun X Y hl hC hQ => ?_)
  obtain ⟨⟨hGr, wa, wb, hw, hwa, hwb⟩, hS, hA, hT, hF, N, lq, hL⟩ := id hI
  obtain ⟨s1, ⟨s2, s3, s4, s5, s6, s7, s8⟩, ⟨s9, s10, s11, s12⟩, s13, s14, s15, s16, s17, s18⟩ := id hS
  obtain ⟨m1, m2, m3, m4⟩ := id s14
  obtain ⟨f1, f2, f3, f4⟩ := id hF
  obtain ⟨t1, t2, t3, t4, t5⟩ := id hT
  obtain ⟨i1, i2, i3, i4⟩ := id hL.1
  obtain ⟨hR0, hR2, hR6, hRr, hRr1, hRk, hRw⟩ := id i1
  have hT8 : isT 8 := Or.inr (Or.inl rfl)
  have hlo := m1.lo
  obtain ⟨l0, b1, b2, b3⟩ := hL.num hlo m2
  have hgd := hL.good hS (T' := sT S) rfl
  have hN := i2.2.2.1
  have hlo0 : lo8 (sF0 S) := fun i => by rcases s9 i with q | q <;> omega
  have hwo : ∀ g d, g < 6 → wo (sT S) g d ≤ 9 := fun g d hg => wo_le i1 hg
  have hN0 := i2.2.1
  have hlp : ∀ (c k : Nat) (kv bv : Int), k + c = N → kv = (k : Int) → bv = moF (sT S) (sCo S) lq k → G X Y 4 [vR 0, vI bv, vI kv] [] M P := by
    intro c
    induction c with
    | zero =>
      intro k kv bv hk e1 e2
      subst e1; subst e2
      have : k = N := by omega
      subst this
      refine G_il2 hC dX9_most_4 ?_
      refine G_al0 hC dX9_most_5 ?_
      refine G_getR hC fl_X9_35 (by first | assumption | rfl) (by omega) (by first | assumption | exact hGr _ _ _ rfl) dX9_most_6 ?_
      refine G_getI hC fl_X9_249 (by first | assumption | rfl) (by omega) dX9_most_9 ?_
      rw [hN0]
      refine G_icmp_ge (tgt := 42) hC dX9_most_12 (by decide) (by omega) (by omega) (fun c12 => ?_) (fun c12 => ?_)
      · refine G_il1 hC dX9_most_42 ?_
        exact G_iret hC hQ dX9_most_43 ⟨_, rfl, ⟨_, lq, hL.lk, rfl⟩, hI, eqx.refl, PX.refl⟩
      · exact absurd c12 (by omega)
    | succ c ih =>
      intro k kv bv hk e1 e2
      subst e1; subst e2
      have hmr := moF_r (T := sT S) (co := sCo S) (lq := lq) hwo s7 k
      have htr := wTog_r (T := sT S) (c := sCo S) (m := 0) (f := dgf (lq k)) hwo (by omega) (tn (sT S)) s7
      have hM13 : M 13 k = ((enc (dgf (lq k)) : Nat) : Int) := by rw [(i2.2.2.2.1 k (by omega)).1, enc_dgf (i2.lt (by omega))]
      refine G_il2 hC dX9_most_4 ?_
      refine G_al0 hC dX9_most_5 ?_
      refine G_getR hC fl_X9_35 (by first | assumption | rfl) (by omega) (by first | assumption | exact hGr _ _ _ rfl) dX9_most_6 ?_
      refine G_getI hC fl_X9_249 (by first | assumption | rfl) (by omega) dX9_most_9 ?_
      rw [hN0]
      refine G_icmp_ge (tgt := 42) hC dX9_most_12 (by decide) (by omega) (by omega) (fun c12 => ?_) (fun c12 => ?_)
      · exact absurd c12 (by omega)
      · refine G_il1 hC dX9_most_15 ?_
        refine G_al0 hC dX9_most_16 ?_
        refine G_getR hC fl_X9_29 (by first | assumption | rfl) (by omega) (by first | assumption | exact hGr _ _ _ rfl) dX9_most_17 ?_
        refine G_al0 hC dX9_most_20 ?_
        refine G_getR hC fl_X9_35 (by first | assumption | rfl) (by omega) (by first | assumption | exact hGr _ _ _ rfl) dX9_most_21 ?_
        refine G_il2 hC dX9_most_24 ?_
        refine G_callVI hC (c_X0_lieOf hGr (by omega)) mv_X9_250 (by first | assumption | rfl) (by omega) (by decide) rfl (by decide) dX9_most_25 rfl (Nat.le_of_ble_eq_true rfl) rfl (fun z25 M25 P25 h25 => ?_)
        obtain ⟨rfl, rfl, rfl⟩ := h25
        rw [hM13]
        refine G_iconst hC dX9_most_28 ?_
        refine G_callVI hC (c_X7_worthTogether (m := 0) hGr hT8 i1 (dgf_lo _) (by omega)) mv_X9_196 (by first | assumption | rfl) (by omega) (by decide) rfl (by decide) dX9_most_29 rfl (Nat.le_of_ble_eq_true rfl) rfl (fun z29 M29 P29 h29 => ?_)
        obtain ⟨rfl, rfl, rfl⟩ := h29
        rw [t4]
        refine G_max hC mm_X9_253 (by omega) (by omega) rfl (by decide) (Nat.le_of_ble_eq_true rfl) dX9_most_32 ?_
        refine G_is1 hC dX9_most_35 rfl ?_
        refine G_inc2 hC dX9_most_36 rfl ?_
        refine G_goto (tgt := 4) hC dX9_most_39 (by decide) ?_
        exact ih (k + 1) _ _ (by omega) (by omega) rfl
  refine G_iconst hC dX9_most_0 ?_
  refine G_is1 hC dX9_most_1 rfl ?_
  refine G_iconst hC dX9_most_2 ?_
  refine G_is2 hC dX9_most_3 rfl ?_
  exact hlp N 0 _ _ (by omega) rfl rfl
