/-! calls that look ahead -/
def sLk : Nat → Prop := fun a => 16 ≤ a ∧ a ≤ 35
theorem CIv_up {c : Nat} {M M' : Mem} {P P' : PMem} {S : AS} {N : Nat} {lq : Nat → Nat} (hI : CIv c M P S) (hL : LyS M S N lq) (hP : PW P') (hx : eqx sLk M M') (hSI : SI M' 15 8 4320 (sT S) N lq) (hSr : SrI M' (sT S) N lq) (hWh : WhI M' (sT S) (sW S) N lq) : CIv c M' P' S ∧ eqx clsX M M' := by
  obtain ⟨h1, h2, h3, h4, h5, -⟩ := hI
  refine ⟨⟨hP, h2, pA_x h3 (fun a ha b => hx a (by unfold sLk; omega) b), pT_x h4 (fun a ha b => hx a (by unfold sLk; omega) b), pF_x h5 (fun a ha ha' b => hx a (by unfold sLk; omega) b), N, lq, hSI, hL.2.1, hSr, hWh⟩, fun a ha b => hx a (fun q => ha (by unfold clsX; unfold sLk at q; omega)) b⟩
def laQ (M : Mem) (P : PMem) (T : TB) (N : Nat) (lq : Nat → Nat) (l0 : Nat) : Mem → PMem → Prop := fun M' P' => P = P' ∧ eqx (seS 17 18) M M' ∧ M' 17 1 = (l0 : Int) ∧ ∃ m, SeB M' 17 18 N lq (bXn T m (st0 (lq l0))).1 (bXn T m (st0 (lq l0))).2
set_option maxHeartbeats 4000000 in
set_option maxRecDepth 100000 in
theorem c_X9_lookAhead {l : Launch} {c : Nat} {S : AS} {N l0 : Nat} {lq : Nat → Nat} {M : Mem} {P : PMem} (hI : CIv c M P S) (hL : LyS M S N lq) (hl0 : l0 < N) (hq : lq l0 = enc (sNow S).1) : CtV l yX9_lookAhead cX9_lookAhead 1 none 3 66 45 [vR 0] M P (laQ M P (sT S) N lq l0) := by
  refine Ct_of (own := RX9) (L := [vR 0]) (by decide) rfl rfl (Nat.le_of_ble_eq_true rfl) (fun X Y hl hC hQ => ?_)
  obtain ⟨⟨hGr, wa, wb, hw, hwa, hwb⟩, hS, hA, hT, hF, -⟩ := id hI
  obtain ⟨s1, ⟨s2, s3, s4, s5, s6, s7, s8⟩, ⟨s9, s10, s11, s12⟩, s13, s14, s15, s16, s17, s18⟩ := id hS
  obtain ⟨m1, m2, m3, m4⟩ := id s14
  obtain ⟨f1, f2, f3, f4⟩ := id hF
  obtain ⟨t1, t2, t3, t4, t5⟩ := id hT
  obtain ⟨i1, i2, i3, i4⟩ := id hL.1
  obtain ⟨hR0, hR2, hR6, hRr, hRr1, hRk, hRw⟩ := id i1
  have hT8 : isT 8 := Or.inr (Or.inl rfl)
  have hlo := m1.lo
  obtain ⟨l0', b1, b2, b3⟩ := hL.num hlo m2
  have hll : l0' = l0 := i2.inj b1 hl0 (by rw [b2, hq])
  subst hll
  have hN := i2.2.2.1
  have hr1 : 0 ≤ M 17 1 ∧ M 17 1 ≤ 1023 := by
    rcases hL.2.2.1 with q | ⟨l1, m, q1, q2, -⟩ <;> omega
  by_cases hs : M 17 1 = (l0' : Int)
  · obtain ⟨m, hm⟩ : ∃ m, SeB M 17 18 N lq (bXn (sT S) m (st0 (lq l0'))).1 (bXn (sT S) m (st0 (lq l0'))).2 := by
      rcases hL.2.2.1 with q | ⟨l1, m, q1, q2, q3⟩
      · omega
      · have : l1 = l0' := by omega
        subst this
        exact ⟨m, q3⟩
    refine G_al0 hC dX9_lookAhead_0 ?_
    refine G_getR hC fl_X9_53 (by first | assumption | rfl) (by omega) (by first | assumption | exact hGr _ _ _ rfl) dX9_lookAhead_1 ?_
    refine G_al0 hC dX9_lookAhead_4 ?_
    refine G_getR hC fl_X9_35 (by first | assumption | rfl) (by omega) (by first | assumption | exact hGr _ _ _ rfl) dX9_lookAhead_5 ?_
    refine G_al0 hC dX9_lookAhead_8 ?_
    refine G_getR hC fl_X9_76 (by first | assumption | rfl) (by omega) (by first | assumption | exact hGr _ _ _ rfl) dX9_lookAhead_9 ?_
    refine G_getI hC fl_X9_137 (by first | assumption | rfl) (by omega) dX9_lookAhead_12 ?_
    rw [f1.1]
    refine G_callVI hC (c_X0_numberOf hGr i2.1 (enc_lt hlo)) mv_X9_211 (by first | assumption | rfl) (by omega) (by decide) rfl (by decide) dX9_lookAhead_15 rfl (Nat.le_of_ble_eq_true rfl) rfl (fun z15 M15 P15 h15 => ?_)
    obtain ⟨rfl, rfl, rfl⟩ := h15
    rw [b3]
    refine G_callVV hC (c_X5_startSame hGr isSe17 (by omega) hs) mv_X9_277 (by first | assumption | rfl) (by omega) (by decide) rfl (by decide) dX9_lookAhead_18 rfl (Nat.le_of_ble_eq_true rfl) rfl (fun M18 P18 h18 => ?_)
    obtain ⟨rfl, rfl⟩ := h18
    exact G_vret hC hQ dX9_lookAhead_21 ⟨rfl, rfl, eqx.refl, hs, m, hm⟩
  · obtain ⟨e1, e2, e3⟩ := stM_B (M := M) (se := 17) (oo := 18) (lq := lq) hN (by omega) (fun a b ha hb e => i2.inj ha hb e) b1
    refine G_al0 hC dX9_lookAhead_0 ?_
    refine G_getR hC fl_X9_53 (by first | assumption | rfl) (by omega) (by first | assumption | exact hGr _ _ _ rfl) dX9_lookAhead_1 ?_
    refine G_al0 hC dX9_lookAhead_4 ?_
    refine G_getR hC fl_X9_35 (by first | assumption | rfl) (by omega) (by first | assumption | exact hGr _ _ _ rfl) dX9_lookAhead_5 ?_
    refine G_al0 hC dX9_lookAhead_8 ?_
    refine G_getR hC fl_X9_76 (by first | assumption | rfl) (by omega) (by first | assumption | exact hGr _ _ _ rfl) dX9_lookAhead_9 ?_
    refine G_getI hC fl_X9_137 (by first | assumption | rfl) (by omega) dX9_lookAhead_12 ?_
    rw [f1.1]
    refine G_callVI hC (c_X0_numberOf hGr i2.1 (enc_lt hlo)) mv_X9_211 (by first | assumption | rfl) (by omega) (by decide) rfl (by decide) dX9_lookAhead_15 rfl (Nat.le_of_ble_eq_true rfl) rfl (fun z15 M15 P15 h15 => ?_)
    obtain ⟨rfl, rfl, rfl⟩ := h15
    rw [b3]
    refine G_callVV hC (c_X5_startNew hGr isSe17 (by omega) hs hr1) mv_X9_277 (by first | assumption | rfl) (by omega) (by decide) rfl (by decide) dX9_lookAhead_18 rfl (Nat.le_of_ble_eq_true rfl) rfl (fun M18 P18 h18 => ?_)
    obtain ⟨rfl, rfl⟩ := h18
    exact G_vret hC hQ dX9_lookAhead_21 ⟨rfl, rfl, e3, e2, 0, e1⟩
noncomputable def needS (S : AS) (i d : Int) : Int := by classical exact if isG S i ∧ isD S d then ndF (sT S) (enc (sNow S).1) i.toNat d.toNat else -1
set_option maxHeartbeats 4000000 in
set_option maxRecDepth 100000 in
theorem c_X9_need {l : Launch} {c : Nat} {S : AS} {i d : Int} {M : Mem} {P : PMem} (hI : CIv c M P S) (hi : i32r i) (hd0 : i32r d) : CtI l yX9_need cX9_need 3 (some .int) 7 185 45 [vR 0, vI i, vI d] M P (cR c M P S (needS S i d)) := by
  refine Ct_of (own := RX9) (L := [vR 0, vI i, vI d]) (by decide) rfl rfl (Nat.le_of_ble_eq_true rfl) (fun X Y hl hC hQ => ?_)
  obtain ⟨⟨hGr, wa, wb, hw, hwa, hwb⟩, hS, hA, hT, hF, N, lq, hL⟩ := id hI
  obtain ⟨s1, ⟨s2, s3, s4, s5, s6, s7, s8⟩, ⟨s9, s10, s11, s12⟩, s13, s14, s15, s16, s17, s18⟩ := id hS
  obtain ⟨m1, m2, m3, m4⟩ := id s14
  obtain ⟨f1, f2, f3, f4⟩ := id hF
  obtain ⟨t1, t2, t3, t4, t5⟩ := id hT
  obtain ⟨i1, i2, i3, i4⟩ := id hL.1
  obtain ⟨hR0, hR2, hR6, hRr, hRr1, hRk, hRw⟩ := id i1
  have hT8 : isT 8 := Or.inr (Or.inl rfl)
  have hlo := m1.lo
  obtain ⟨l0, b1, b2, b3⟩ := hL.num hlo m2
  have hgd := hL.good hS (T' := sT S) rfl
  have hN := i2.2.2.1
  have hlo0 : lo8 (sF0 S) := fun i => by rcases s9 i with q | q <;> omega
  unfold i32r at *
  by_cases hg : isG S i
  · by_cases hd : isD S d
    · obtain ⟨g, rfl⟩ : ∃ g : Nat, i = (g : Int) := ⟨i.toNat, by have := hg.1; omega⟩
      obtain ⟨e, rfl⟩ : ∃ e : Nat, d = (e : Int) := ⟨d.toNat, by have := hd.1; omega⟩
      have hg2 := hg.2
      have hd2 := hd.2
      refine G_al0 hC dX9_need_0 ?_
      refine G_il1 hC dX9_need_1 ?_
      refine G_callVI hC (c_X9_isGuest1 hI (by unfold i32r; omega) hg) mv_X9_154 (by first | assumption | rfl) (by omega) (by decide) rfl (by decide) dX9_need_2 rfl (Nat.le_of_ble_eq_true rfl) rfl (fun z2 M2 P2 h2 => ?_)
      obtain ⟨rfl, rfl, rfl⟩ := h2
      refine G_if_eq (tgt := 16) hC dX9_need_5 (by decide) (by omega) (fun c5 => ?_) (fun c5 => ?_)
      · exact absurd c5 (by omega)
      · refine G_al0 hC dX9_need_8 ?_
        refine G_il2 hC dX9_need_9 ?_
        refine G_callVI hC (c_X9_isDish1 hI (by unfold i32r; omega) hd) mv_X9_171 (by first | assumption | rfl) (by omega) (by decide) rfl (by decide) dX9_need_10 rfl (Nat.le_of_ble_eq_true rfl) rfl (fun z10 M10 P10 h10 => ?_)
        obtain ⟨rfl, rfl, rfl⟩ := h10
        refine G_if_ne (tgt := 18) hC dX9_need_13 (by decide) (by omega) (fun c13 => ?_) (fun c13 => ?_)
        · refine G_al0 hC dX9_need_18 ?_
          refine G_callVV hC (c_X9_lookAhead hI hL b1 b2) mv_X9_199 (by first | assumption | rfl) (by omega) (by decide) rfl (by decide) dX9_need_19 rfl (Nat.le_of_ble_eq_true rfl) rfl (fun M19 P19 h19 => ?_)
          obtain ⟨rfl, k1, k2, m, k3⟩ := h19
          have hSI2 : SI M19 15 8 4320 (sT S) N lq := SI_x hL.1 (fun a ha b => k1 a (by unfold seS; omega) b)
          have hT52 : M19 8 5 = (enc (sF0 S) : Int) := by rw [k1 8 (by unfold seS; omega)]; exact t5
          have hW2 : TabW M19 8 (sW S) := fun g hg => by rw [k1 10 (by unfold seS; omega)]; exact t1 g hg
          have hWh2 : WhI M19 (sT S) (sW S) N lq := WhI_x hL.2.2.2 (k1 25 (by unfold seS; omega))
          refine G_al0 hC dX9_need_22 ?_
          refine G_getR hC fl_X9_53 (by first | assumption | rfl) (by omega) (by first | assumption | exact hGr _ _ _ rfl) dX9_need_23 ?_
          refine G_il1 hC dX9_need_26 ?_
          refine G_il2 hC dX9_need_27 ?_
          refine G_callVI hC (c_X5_stepsTo (g := g) (d := e) hGr isSe17 hSI2 k3 (by omega) (by omega) hT52 hlo0) mv_X9_202 (by first | assumption | rfl) (by omega) (by decide) rfl (by decide) dX9_need_28 rfl (Nat.le_of_ble_eq_true rfl) rfl (fun z28 M28 P28 h28 => ?_)
          skip
          obtain ⟨rfl, m', hM2, hr⟩ := h28
          obtain ⟨q1, q2, q3, q4⟩ := hM2
          have ebx : bXn (sT S) m' ((bXn (sT S) m (st0 (lq l0))).1, (bXn (sT S) m (st0 (lq l0))).2) = bXn (sT S) (m + m') (st0 (lq l0)) := bXn_add m m' _
          rw [ebx] at hr q1
          have hfin := nd_ok (f0 := sF0 S) hgd b1 hL.2.1 (by omega : g < tn (sT S)) hr
          have hx : eqx sLk M M28 := (k1.mono (fun a ha => by unfold seS at ha; unfold sLk; omega)).trans (q3.mono (fun a ha => by unfold seX at ha; unfold sLk; omega))
          obtain ⟨z1, z2⟩ := CIv_up hI hL ⟨hGr, wa, wb, hw, hwa, hwb⟩ hx q2 (Or.inr ⟨l0, m + m', b1, by rw [q4]; exact k2, q1⟩) (WhI_x hWh2 (q3 25 (by unfold seX; omega)))
          exact G_iret hC hQ dX9_need_31 ⟨_, rfl, by unfold needS; rw [hfin, b2, if_pos ⟨hg, hd⟩]; simp, z1, z2, PX.refl⟩
        · exact absurd c13 (by omega)
    · have hno : ¬ (isG S i ∧ isD S d) := fun z => hd z.2
      refine G_al0 hC dX9_need_0 ?_
      refine G_il1 hC dX9_need_1 ?_
      refine G_callVI hC (c_X9_isGuest1 hI (by unfold i32r; omega) hg) mv_X9_154 (by first | assumption | rfl) (by omega) (by decide) rfl (by decide) dX9_need_2 rfl (Nat.le_of_ble_eq_true rfl) rfl (fun z2 M2 P2 h2 => ?_)
      obtain ⟨rfl, rfl, rfl⟩ := h2
      refine G_if_eq (tgt := 16) hC dX9_need_5 (by decide) (by omega) (fun c5 => ?_) (fun c5 => ?_)
      · exact absurd c5 (by omega)
      · refine G_al0 hC dX9_need_8 ?_
        refine G_il2 hC dX9_need_9 ?_
        refine G_callVI hC (c_X9_isDish0 hI (by unfold i32r; omega) hd) mv_X9_171 (by first | assumption | rfl) (by omega) (by decide) rfl (by decide) dX9_need_10 rfl (Nat.le_of_ble_eq_true rfl) rfl (fun z10 M10 P10 h10 => ?_)
        obtain ⟨rfl, rfl, rfl⟩ := h10
        refine G_if_ne (tgt := 18) hC dX9_need_13 (by decide) (by omega) (fun c13 => ?_) (fun c13 => ?_)
        · exact absurd rfl c13
        · refine G_iconst hC dX9_need_16 ?_
          exact G_iret hC hQ dX9_need_17 ⟨_, rfl, by unfold needS; rw [if_neg hno], hI, eqx.refl, PX.refl⟩
  · have hno : ¬ (isG S i ∧ isD S d) := fun z => hg z.1
    refine G_al0 hC dX9_need_0 ?_
    refine G_il1 hC dX9_need_1 ?_
    refine G_callVI hC (c_X9_isGuest0 hI (by unfold i32r; omega) hg) mv_X9_154 (by first | assumption | rfl) (by omega) (by decide) rfl (by decide) dX9_need_2 rfl (Nat.le_of_ble_eq_true rfl) rfl (fun z2 M2 P2 h2 => ?_)
    obtain ⟨rfl, rfl, rfl⟩ := h2
    refine G_if_eq (tgt := 16) hC dX9_need_5 (by decide) (by omega) (fun c5 => ?_) (fun c5 => ?_)
    · refine G_iconst hC dX9_need_16 ?_
      exact G_iret hC hQ dX9_need_17 ⟨_, rfl, by unfold needS; rw [if_neg hno], hI, eqx.refl, PX.refl⟩
    · exact absurd rfl c5
noncomputable def firstS (S : AS) (i d : Int) : Int := by classical exact if isG S i ∧ isD S d then fiF (sT S) (enc (sNow S).1) i.toNat d.toNat else -1
set_option maxHeartbeats 4000000 in
set_option maxRecDepth 100000 in
theorem c_X9_first {l : Launch} {c : Nat} {S : AS} {i d : Int} {M : Mem} {P : PMem} (hI : CIv c M P S) (hi : i32r i) (hd0 : i32r d) : CtI l yX9_first cX9_first 3 (some .int) 7 185 45 [vR 0, vI i, vI d] M P (cR c M P S (firstS S i d)) := by
  refine Ct_of (own := RX9) (L := [vR 0, vI i, vI d]) (by decide) rfl rfl (Nat.le_of_ble_eq_true rfl) (fun X Y hl hC hQ => ?_)
  obtain ⟨⟨hGr, wa, wb, hw, hwa, hwb⟩, hS, hA, hT, hF, N, lq, hL⟩ := id hI
  obtain ⟨s1, ⟨s2, s3, s4, s5, s6, s7, s8⟩, ⟨s9, s10, s11, s12⟩, s13, s14, s15, s16, s17, s18⟩ := id hS
  obtain ⟨m1, m2, m3, m4⟩ := id s14
  obtain ⟨f1, f2, f3, f4⟩ := id hF
  obtain ⟨t1, t2, t3, t4, t5⟩ := id hT
  obtain ⟨i1, i2, i3, i4⟩ := id hL.1
  obtain ⟨hR0, hR2, hR6, hRr, hRr1, hRk, hRw⟩ := id i1
  have hT8 : isT 8 := Or.inr (Or.inl rfl)
  have hlo := m1.lo
  obtain ⟨l0, b1, b2, b3⟩ := hL.num hlo m2
  have hgd := hL.good hS (T' := sT S) rfl
  have hN := i2.2.2.1
  have hlo0 : lo8 (sF0 S) := fun i => by rcases s9 i with q | q <;> omega
  unfold i32r at *
  by_cases hg : isG S i
  · by_cases hd : isD S d
    · obtain ⟨g, rfl⟩ : ∃ g : Nat, i = (g : Int) := ⟨i.toNat, by have := hg.1; omega⟩
      obtain ⟨e, rfl⟩ : ∃ e : Nat, d = (e : Int) := ⟨d.toNat, by have := hd.1; omega⟩
      have hg2 := hg.2
      have hd2 := hd.2
      refine G_al0 hC dX9_first_0 ?_
      refine G_il1 hC dX9_first_1 ?_
      refine G_callVI hC (c_X9_isGuest1 hI (by unfold i32r; omega) hg) mv_X9_154 (by first | assumption | rfl) (by omega) (by decide) rfl (by decide) dX9_first_2 rfl (Nat.le_of_ble_eq_true rfl) rfl (fun z2 M2 P2 h2 => ?_)
      obtain ⟨rfl, rfl, rfl⟩ := h2
      refine G_if_eq (tgt := 16) hC dX9_first_5 (by decide) (by omega) (fun c5 => ?_) (fun c5 => ?_)
      · exact absurd c5 (by omega)
      · refine G_al0 hC dX9_first_8 ?_
        refine G_il2 hC dX9_first_9 ?_
        refine G_callVI hC (c_X9_isDish1 hI (by unfold i32r; omega) hd) mv_X9_171 (by first | assumption | rfl) (by omega) (by decide) rfl (by decide) dX9_first_10 rfl (Nat.le_of_ble_eq_true rfl) rfl (fun z10 M10 P10 h10 => ?_)
        obtain ⟨rfl, rfl, rfl⟩ := h10
        refine G_if_ne (tgt := 18) hC dX9_first_13 (by decide) (by omega) (fun c13 => ?_) (fun c13 => ?_)
        · refine G_al0 hC dX9_first_18 ?_
          refine G_callVV hC (c_X9_lookAhead hI hL b1 b2) mv_X9_199 (by first | assumption | rfl) (by omega) (by decide) rfl (by decide) dX9_first_19 rfl (Nat.le_of_ble_eq_true rfl) rfl (fun M19 P19 h19 => ?_)
          obtain ⟨rfl, k1, k2, m, k3⟩ := h19
          have hSI2 : SI M19 15 8 4320 (sT S) N lq := SI_x hL.1 (fun a ha b => k1 a (by unfold seS; omega) b)
          have hT52 : M19 8 5 = (enc (sF0 S) : Int) := by rw [k1 8 (by unfold seS; omega)]; exact t5
          have hW2 : TabW M19 8 (sW S) := fun g hg => by rw [k1 10 (by unfold seS; omega)]; exact t1 g hg
          have hWh2 : WhI M19 (sT S) (sW S) N lq := WhI_x hL.2.2.2 (k1 25 (by unfold seS; omega))
          refine G_al0 hC dX9_first_22 ?_
          refine G_getR hC fl_X9_53 (by first | assumption | rfl) (by omega) (by first | assumption | exact hGr _ _ _ rfl) dX9_first_23 ?_
          refine G_il1 hC dX9_first_26 ?_
          refine G_il2 hC dX9_first_27 ?_
          refine G_callVI hC (c_X5_openingTo (g := g) (d := e) hGr isSe17 hSI2 k3 (by omega) (by omega) hT52 hlo0) mv_X9_205 (by first | assumption | rfl) (by omega) (by decide) rfl (by decide) dX9_first_28 rfl (Nat.le_of_ble_eq_true rfl) rfl (fun z28 M28 P28 h28 => ?_)
          skip
          obtain ⟨rfl, m', hM2, hr⟩ := h28
          obtain ⟨q1, q2, q3, q4⟩ := hM2
          have ebx : bXn (sT S) m' ((bXn (sT S) m (st0 (lq l0))).1, (bXn (sT S) m (st0 (lq l0))).2) = bXn (sT S) (m + m') (st0 (lq l0)) := bXn_add m m' _
          rw [ebx] at hr q1
          have hfin := fi_ok (f0 := sF0 S) hgd b1 hL.2.1 (by omega : g < tn (sT S)) hr
          have hx : eqx sLk M M28 := (k1.mono (fun a ha => by unfold seS at ha; unfold sLk; omega)).trans (q3.mono (fun a ha => by unfold seX at ha; unfold sLk; omega))
          obtain ⟨z1, z2⟩ := CIv_up hI hL ⟨hGr, wa, wb, hw, hwa, hwb⟩ hx q2 (Or.inr ⟨l0, m + m', b1, by rw [q4]; exact k2, q1⟩) (WhI_x hWh2 (q3 25 (by unfold seX; omega)))
          exact G_iret hC hQ dX9_first_31 ⟨_, rfl, by unfold firstS; rw [hfin, b2, if_pos ⟨hg, hd⟩]; simp, z1, z2, PX.refl⟩
        · exact absurd c13 (by omega)
    · have hno : ¬ (isG S i ∧ isD S d) := fun z => hd z.2
      refine G_al0 hC dX9_first_0 ?_
      refine G_il1 hC dX9_first_1 ?_
      refine G_callVI hC (c_X9_isGuest1 hI (by unfold i32r; omega) hg) mv_X9_154 (by first | assumption | rfl) (by omega) (by decide) rfl (by decide) dX9_first_2 rfl (Nat.le_of_ble_eq_true rfl) rfl (fun z2 M2 P2 h2 => ?_)
      obtain ⟨rfl, rfl, rfl⟩ := h2
      refine G_if_eq (tgt := 16) hC dX9_first_5 (by decide) (by omega) (fun c5 => ?_) (fun c5 => ?_)
      · exact absurd c5 (by omega)
      · refine G_al0 hC dX9_first_8 ?_
        refine G_il2 hC dX9_first_9 ?_
        refine G_callVI hC (c_X9_isDish0 hI (by unfold i32r; omega) hd) mv_X9_171 (by first | assumption | rfl) (by omega) (by decide) rfl (by decide) dX9_first_10 rfl (Nat.le_of_ble_eq_true rfl) rfl (fun z10 M10 P10 h10 => ?_)
        obtain ⟨rfl, rfl, rfl⟩ := h10
        refine G_if_ne (tgt := 18) hC dX9_first_13 (by decide) (by omega) (fun c13 => ?_) (fun c13 => ?_)
        · exact absurd rfl c13
        · refine G_iconst hC dX9_first_16 ?_
          exact G_iret hC hQ dX9_first_17 ⟨_, rfl, by unfold firstS; rw [if_neg hno], hI, eqx.refl, PX.refl⟩
  · have hno : ¬ (isG S i ∧ isD S d) := fun z => hg z.1
    refine G_al0 hC dX9_first_0 ?_
    refine G_il1 hC dX9_first_1 ?_
    refine G_callVI hC (c_X9_isGuest0 hI (by unfold i32r; omega) hg) mv_X9_154 (by first | assumption | rfl) (by omega) (by decide) rfl (by decide) dX9_first_2 rfl (Nat.le_of_ble_eq_true rfl) rfl (fun z2 M2 P2 h2 => ?_)
    obtain ⟨rfl, rfl, rfl⟩ := h2
    refine G_if_eq (tgt := 16) hC dX9_first_5 (by decide) (by omega) (fun c5 => ?_) (fun c5 => ?_)
    · refine G_iconst hC dX9_first_16 ?_
      exact G_iret hC hQ dX9_first_17 ⟨_, rfl, by unfold firstS; rw [if_neg hno], hI, eqx.refl, PX.refl⟩
    · exact absurd rfl c5
set_option maxHeartbeats 4000000 in
set_option maxRecDepth 100000 in
theorem c_X9_rest {l : Launch} {c : Nat} {S : AS} {M : Mem} {P : PMem} (hI : CIv c M P S)  : CtI l yX9_rest cX9_rest 1 (some .int) 6 161 45 [vR 0] M P (cR c M P S (rsF (sT S) (sW S) (enc (sNow S).1))) := by
  refine Ct_of (own := RX9) (L := [vR 0]) (by decide) rfl rfl (Nat.le_of_ble_eq_true rfl) (fun X Y hl hC hQ => ?_)
  obtain ⟨⟨hGr, wa, wb, hw, hwa, hwb⟩, hS, hA, hT, hF, N, lq, hL⟩ := id hI
  obtain ⟨s1, ⟨s2, s3, s4, s5, s6, s7, s8⟩, ⟨s9, s10, s11, s12⟩, s13, s14, s15, s16, s17, s18⟩ := id hS
  obtain ⟨m1, m2, m3, m4⟩ := id s14
  obtain ⟨f1, f2, f3, f4⟩ := id hF
  obtain ⟨t1, t2, t3, t4, t5⟩ := id hT
  obtain ⟨i1, i2, i3, i4⟩ := id hL.1
  obtain ⟨hR0, hR2, hR6, hRr, hRr1, hRk, hRw⟩ := id i1
  have hT8 : isT 8 := Or.inr (Or.inl rfl)
  have hlo := m1.lo
  obtain ⟨l0, b1, b2, b3⟩ := hL.num hlo m2
  have hgd := hL.good hS (T' := sT S) rfl
  have hN := i2.2.2.1
  have hlo0 : lo8 (sF0 S) := fun i => by rcases s9 i with q | q <;> omega
  refine G_al0 hC dX9_rest_0 ?_
  refine G_callVV hC (c_X9_lookAhead hI hL b1 b2) mv_X9_199 (by first | assumption | rfl) (by omega) (by decide) rfl (by decide) dX9_rest_1 rfl (Nat.le_of_ble_eq_true rfl) rfl (fun M1 P1 h1 => ?_)
  obtain ⟨rfl, k1, k2, m, k3⟩ := h1
  have hSI2 : SI M1 15 8 4320 (sT S) N lq := SI_x hL.1 (fun a ha b => k1 a (by unfold seS; omega) b)
  have hT52 : M1 8 5 = (enc (sF0 S) : Int) := by rw [k1 8 (by unfold seS; omega)]; exact t5
  have hW2 : TabW M1 8 (sW S) := fun g hg => by rw [k1 10 (by unfold seS; omega)]; exact t1 g hg
  have hWh2 : WhI M1 (sT S) (sW S) N lq := WhI_x hL.2.2.2 (k1 25 (by unfold seS; omega))
  refine G_al0 hC dX9_rest_4 ?_
  refine G_getR hC fl_X9_53 (by first | assumption | rfl) (by omega) (by first | assumption | exact hGr _ _ _ rfl) dX9_rest_5 ?_
  refine G_ldc (z := 1000000) hC kc_X9_233 (by decide) dX9_rest_8 ?_
  refine G_callVI hC (c_X5_stepsToRest hGr isSe17 hSI2 k3 hW2 (by omega)) mv_X9_234 (by first | assumption | rfl) (by omega) (by decide) rfl (by decide) dX9_rest_10 rfl (Nat.le_of_ble_eq_true rfl) rfl (fun z10 M10 P10 h10 => ?_)
  skip
  obtain ⟨rfl, m', hM2, hr⟩ := h10
  obtain ⟨q1, q2, q3, q4⟩ := hM2
  have ebx : bXn (sT S) m' ((bXn (sT S) m (st0 (lq l0))).1, (bXn (sT S) m (st0 (lq l0))).2) = bXn (sT S) (m + m') (st0 (lq l0)) := bXn_add m m' _
  rw [ebx] at hr q1
  have hfin := rs_ok hgd b1 hr
  have hx : eqx sLk M M10 := (k1.mono (fun a ha => by unfold seS at ha; unfold sLk; omega)).trans (q3.mono (fun a ha => by unfold seX at ha; unfold sLk; omega))
  obtain ⟨z1, z2⟩ := CIv_up hI hL ⟨hGr, wa, wb, hw, hwa, hwb⟩ hx q2 (Or.inr ⟨l0, m + m', b1, by rw [q4]; exact k2, q1⟩) (WhI_x hWh2 (q3 25 (by unfold seX; omega)))
  exact G_iret hC hQ dX9_rest_13 ⟨_, rfl, by rw [hfin, b2], z1, z2, PX.refl⟩
noncomputable def neverS (S : AS) (i : Int) : Int := by classical exact if isG S i then (nvF (sT S) (enc (sNow S).1) i.toNat (sNd S) : Int) else -1
theorem lShl_all {nd g : Nat} (hg : g < 6) (hnd : nd ≤ 6) : lShl (((2 ^ nd - 1 : Nat) : Int)) (6 * g) = ((encH (fun x => if x = g then 2 ^ nd - 1 else 0) : Nat) : Int) := by
  have h6 : 2 ^ nd ≤ 2 ^ 6 := Nat.pow_le_pow_right (by omega) hnd
  have h3 := p_le (k := g + 1) (by omega)
  rw [p64] at h3
  have h5 : (2 ^ nd - 1) * 2 ^ (6 * g) ≤ 2 ^ (6 * g) * 63 := by rw [Nat.mul_comm]; exact Nat.mul_le_mul_left _ (by omega)
  rw [show (6 * (g : Int)) = ((6 * g : Nat) : Int) by omega, lShl_n (by omega) (by omega), all_enc hg]
set_option maxHeartbeats 4000000 in
set_option maxRecDepth 100000 in
theorem c_X9_never {l : Launch} {c : Nat} {S : AS} {i : Int} {M : Mem} {P : PMem} (hI : CIv c M P S) (hi : i32r i) : CtI l yX9_never cX9_never 4 (some .int) 6 164 45 [vR 0, vI i] M P (cR c M P S (neverS S i)) := by
  refine Ct_of (own := RX9) (L := [vR 0, vI i, vX 1, vX 1]) (by decide) rfl rfl (Nat.le_of_ble_eq_true rfl) (fun X Y hl hC hQ => ?_)
  obtain ⟨⟨hGr, wa, wb, hw, hwa, hwb⟩, hS, hA, hT, hF, N, lq, hL⟩ := id hI
  obtain ⟨s1, ⟨s2, s3, s4, s5, s6, s7, s8⟩, ⟨s9, s10, s11, s12⟩, s13, s14, s15, s16, s17, s18⟩ := id hS
  obtain ⟨m1, m2, m3, m4⟩ := id s14
  obtain ⟨f1, f2, f3, f4⟩ := id hF
  obtain ⟨t1, t2, t3, t4, t5⟩ := id hT
  obtain ⟨i1, i2, i3, i4⟩ := id hL.1
  obtain ⟨hR0, hR2, hR6, hRr, hRr1, hRk, hRw⟩ := id i1
  have hT8 : isT 8 := Or.inr (Or.inl rfl)
  have hlo := m1.lo
  obtain ⟨l0, b1, b2, b3⟩ := hL.num hlo m2
  have hgd := hL.good hS (T' := sT S) rfl
  have hN := i2.2.2.1
  have hlo0 : lo8 (sF0 S) := fun i => by rcases s9 i with q | q <;> omega
  unfold i32r at *
  have hlie := LQ_lie s9 hL.2.1
  by_cases hg : isG S i
  · obtain ⟨g, rfl⟩ : ∃ g : Nat, i = (g : Int) := ⟨i.toNat, by have := hg.1; omega⟩
    have hg2 := hg.2
    have h6 : 2 ^ sNd S ≤ 2 ^ 6 := Nat.pow_le_pow_right (by omega) s3
    have hp0 := Nat.two_pow_pos (sNd S)
    have l64 : lo64 (fun x => if x = g then 2 ^ sNd S - 1 else 0) := fun i => by dsimp only; split <;> omega
    have l64b : lo64 (fun x => if x = g then nvF (sT S) (lq l0) g (sNd S) else 0) := fun i => by
      have := nvF_lt (T := sT S) (q := lq l0) (g := g) (sNd S)
      dsimp only; split <;> omega
    refine G_al0 hC dX9_never_0 ?_
    refine G_il1 hC dX9_never_1 ?_
    refine G_callVI hC (c_X9_isGuest1 hI (by unfold i32r; omega) hg) mv_X9_154 (by first | assumption | rfl) (by omega) (by decide) rfl (by decide) dX9_never_2 rfl (Nat.le_of_ble_eq_true rfl) rfl (fun z2 M2 P2 h2 => ?_)
    obtain ⟨rfl, rfl, rfl⟩ := h2
    refine G_if_ne (tgt := 10) hC dX9_never_5 (by decide) (by omega) (fun c5 => ?_) (fun c5 => ?_)
    · refine G_al0 hC dX9_never_10 ?_
      refine G_callVV hC (c_X9_lookAhead hI hL b1 b2) mv_X9_199 (by first | assumption | rfl) (by omega) (by decide) rfl (by decide) dX9_never_11 rfl (Nat.le_of_ble_eq_true rfl) rfl (fun M11 P11 h11 => ?_)
      obtain ⟨rfl, k1, k2, m, k3⟩ := h11
      have hSI2 : SI M11 15 8 4320 (sT S) N lq := SI_x hL.1 (fun a ha b => k1 a (by unfold seS; omega) b)
      have hT52 : M11 8 5 = (enc (sF0 S) : Int) := by rw [k1 8 (by unfold seS; omega)]; exact t5
      have hW2 : TabW M11 8 (sW S) := fun g hg => by rw [k1 10 (by unfold seS; omega)]; exact t1 g hg
      have hWh2 : WhI M11 (sT S) (sW S) N lq := WhI_x hL.2.2.2 (k1 25 (by unfold seS; omega))
      refine G_al0 hC dX9_never_14 ?_
      refine G_getR hC fl_X9_29 (by first | assumption | rfl) (by omega) (by first | assumption | exact hGr _ _ _ rfl) dX9_never_15 ?_
      refine G_callVI hC (c_X7_allDishes (nd := sNd S) hGr hT8 (by rw [k1 8 (by unfold seS; omega)]; exact t2) s3) mv_X9_217 (by first | assumption | rfl) (by omega) (by decide) rfl (by decide) dX9_never_18 rfl (Nat.le_of_ble_eq_true rfl) rfl (fun z18 M18 P18 h18 => ?_)
      obtain ⟨rfl, rfl, rfl⟩ := h18
      rw [show ((2 ^ sNd S : Nat) : Int) - 1 = ((2 ^ sNd S - 1 : Nat) : Int) by omega]
      refine G_il1 hC dX9_never_21 ?_
      refine G_callSL hC (c_X9_shifted (by omega)) ms_X9_220 (by decide) rfl (by decide) dX9_never_22 rfl (Nat.le_of_ble_eq_true rfl) rfl (fun z22 M22 P22 h22 => ?_)
      obtain ⟨rfl, rfl, rfl⟩ := h22
      rw [lShl_all (by omega : g < 6) s3]
      refine G_ls2 hC dX9_never_25 rfl ?_
      refine G_ll2 hC dX9_never_26 ?_
      refine G_al0 hC dX9_never_27 ?_
      refine G_getR hC fl_X9_53 (by first | assumption | rfl) (by omega) (by first | assumption | exact hGr _ _ _ rfl) dX9_never_28 ?_
      refine G_ll2 hC dX9_never_31 ?_
      refine G_callVL hC (c_X5_pairsReached hGr isSe17 hSI2 k3 (encH_lt l64) hlie) mv_X9_224 (by first | assumption | rfl) (by omega) (by decide) rfl (by decide) dX9_never_32 rfl (Nat.le_of_ble_eq_true rfl) rfl (fun z32 M32 P32 h32 => ?_)
      skip
      obtain ⟨rfl, m', k, hM2, hr, hr2, hr3⟩ := h32
      obtain ⟨q1, q2, q3, q4⟩ := hM2
      have ebx : bXn (sT S) m' ((bXn (sT S) m (st0 (lq l0))).1, (bXn (sT S) m (st0 (lq l0))).2) = bXn (sT S) (m + m') (st0 (lq l0)) := bXn_add m m' _
      rw [ebx] at hr hr2 hr3 q1
      have hz36 := metN_lt (bl := (bXn (sT S) (m + m') (st0 (lq l0))).1) (encH_lt l64) k
      have hfin := nv_ok hgd b1 hlie (by omega : g < 6) s3 ⟨m + m', k, rfl, hr2, hr3⟩ hz36
      have hx : eqx sLk M M32 := (k1.mono (fun a ha => by unfold seS at ha; unfold sLk; omega)).trans (q3.mono (fun a ha => by unfold seX at ha; unfold sLk; omega))
      obtain ⟨z1, z2⟩ := CIv_up hI hL ⟨hGr, wa, wb, hw, hwa, hwb⟩ hx q2 (Or.inr ⟨l0, m + m', b1, by rw [q4]; exact k2, q1⟩) (WhI_x hWh2 (q3 25 (by unfold seX; omega)))
      subst hr
      refine G_ldc2 (z := -1) hC kl_X9_228 (by decide) dX9_never_35 ?_
      refine G_lxor hC dX9_never_38 ?_
      refine G_land hC dX9_never_39 ?_
      rw [lAndN_n (by have := encH_lt l64; omega) (by omega), hfin]
      refine G_il1 hC dX9_never_40 ?_
      refine G_callSI hC (c_X9_bitsOf l64b (by omega : g < 6)) ms_X9_167 (by decide) rfl (by decide) dX9_never_41 rfl (Nat.le_of_ble_eq_true rfl) rfl (fun z41 M41 P41 h41 => ?_)
      obtain ⟨rfl, rfl, rfl⟩ := h41
      exact G_iret hC hQ dX9_never_44 ⟨_, rfl, by unfold neverS; rw [if_pos hg]; simp [b2], z1, z2, PX.refl⟩
    · exact absurd c5 (by omega)
  · refine G_al0 hC dX9_never_0 ?_
    refine G_il1 hC dX9_never_1 ?_
    refine G_callVI hC (c_X9_isGuest0 hI (by unfold i32r; omega) hg) mv_X9_154 (by first | assumption | rfl) (by omega) (by decide) rfl (by decide) dX9_never_2 rfl (Nat.le_of_ble_eq_true rfl) rfl (fun z2 M2 P2 h2 => ?_)
    obtain ⟨rfl, rfl, rfl⟩ := h2
    refine G_if_ne (tgt := 10) hC dX9_never_5 (by decide) (by omega) (fun c5 => ?_) (fun c5 => ?_)
    · exact absurd rfl c5
    · refine G_iconst hC dX9_never_8 ?_
      exact G_iret hC hQ dX9_never_9 ⟨_, rfl, by unfold neverS; rw [if_neg hg], hI, eqx.refl, PX.refl⟩
