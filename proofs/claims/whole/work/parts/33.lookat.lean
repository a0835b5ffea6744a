/-! calls that only look -/
def eveS (S : AS) : Int := wTog (sT S) (sCo S) ((sNow S).2.2) (sNow S).1 (tn (sT S))
noncomputable def handsS (S : AS) (i j : Int) : Int := by classical exact if isG S i ∧ isG S j then (hnd (sT S) i.toNat j.toNat : Int) else -1
noncomputable def worthS (S : AS) (i d m : Int) : Int := by classical exact if isG S i ∧ isD S d ∧ 0 ≤ m ∧ m ≤ 99 then wAt (sT S) (sCo S) m i.toNat d.toNat else -1
noncomputable def guestS (S : AS) (i w : Int) : Int := by classical exact if isG S i then (if w = 0 then (tk (sT S) i.toNat : Int) else if w = 1 then dnF (sNow S).1 i.toNat else if w = 2 then (sW S i.toNat : Int) else if w = 3 then ((sNow S).2.1 i.toNat : Int) else -1) else -1
def countS (S : AS) (w : Int) : Int := if w = 0 then (tn (sT S) : Int) else if w = 1 then (sNd S : Int) else if w = 2 then ((sNow S).2.2 : Int) else if w = 3 then ((sUn S).length : Int) else if w = 4 then ((sKe S).length : Int) else if w = 5 then (sLen S : Int) else if w = 6 then (tr (sT S) : Int) else -1
def lkJ (T : TB) (f : Nat → Nat) (i : Nat) : Nat → Nat → Int × Int → Int × Int
  | 0, _, s => s
  | c + 1, j, s => lkJ T f i c (j + 1) (if lik T f i j = 1 then (s.1 + 1, if s.1 = 0 then 10 * (i : Int) + j else s.2) else s)
def lkI (T : TB) (f : Nat → Nat) : Nat → Nat → Int × Int → Int × Int
  | 0, _, s => s
  | c + 1, i, s => lkI T f c (i + 1) (lkJ T f i (tn T - (i + 1)) (i + 1) s)
noncomputable def likedS (S : AS) (w : Int) : Int := if 0 ≤ w ∧ w ≤ 1 then (if w = 0 then (lkI (sT S) (sNow S).1 (tn (sT S)) 0 (0, -4)).1 else (lkI (sT S) (sNow S).1 (tn (sT S)) 0 (0, -4)).2) else -1
noncomputable def dwF (T : TB) (z : Nat) : Nat → Nat → (Nat → Nat) × Nat → (Nat → Nat) × Nat
  | 0, _, s => s
  | c + 1, k, s => by classical exact dwF T z c (k + 1) (if can T s.1 (drw z k % tn T) (drw z k / 8 % tn T) then (aft T s.1 (drw z k % tn T) (drw z k / 8 % tn T), s.2 + 1) else s)
noncomputable def drawnS (S : AS) (z n d : Int) : Int := by classical exact if 0 ≤ z ∧ z ≤ 9999 ∧ 1 ≤ n ∧ n ≤ 60 ∧ (d = -1 ∨ isD S d) then (if d = -1 then ((dwF (sT S) z.toNat n.toNat 0 ((sNow S).1, 0)).2 : Int) else if sFrom (dwF (sT S) z.toNat n.toNat 0 ((sNow S).1, 0)).1 d 6 0 < 0 then -4 else sFrom (dwF (sT S) z.toNat n.toNat 0 ((sNow S).1, 0)).1 d 6 0) else -1
theorem co_min {c m co : Nat} (hm : m ≤ 5 * c) (hc : c ≤ 520) (h9 : co ≤ 9) : 0 ≤ (co : Int) * m ∧ (co : Int) * m ≤ 1000000 := by
  have := mul_rng (a := (co : Int)) (b := (m : Int)) (A := 9) (B := 2600) (by omega) (by omega)
  omega
set_option maxHeartbeats 4000000 in
set_option maxRecDepth 100000 in
theorem c_X9_evening {l : Launch} {c : Nat} {S : AS} {M : Mem} {P : PMem} (hI : CIv c M P S) (hc : c ≤ 520) : CtI l yX9_evening cX9_evening 1 (some .int) 3 69 45 [vR 0] M P (cR c M P S (eveS S)) := by
  refine Ct_of (own := RX9) (L := [vR 0]) (by decide) rfl rfl (Nat.le_of_ble_eq_true rfl) (fun X Y hl hC hQ => ?_)
  obtain ⟨⟨hGr, wa, wb, hw, hwa, hwb⟩, hS, hA, hT, hF, N, lq, hL⟩ := id hI
  obtain ⟨s1, ⟨s2, s3, s4, s5, s6, s7, s8⟩, ⟨s9, s10, s11, s12⟩, s13, s14, s15, s16, s17, s18⟩ := id hS
  obtain ⟨m1, m2, m3, m4⟩ := id s14
  obtain ⟨f1, f2, f3, f4⟩ := id hF
  obtain ⟨t1, t2, t3, t4, t5⟩ := id hT
  obtain ⟨i1, i2, i3, i4⟩ := id hL.1
  obtain ⟨hR0, hR2, hR6, hRr, hRr1, hRk, hRw⟩ := id i1
  have hT8 : isT 8 := Or.inr (Or.inl rfl)
  have hlo := m1.lo
  have hcm := co_min m4 hc s5
  refine G_al0 hC dX9_evening_0 ?_
  refine G_getR hC fl_X9_29 (by first | assumption | rfl) (by omega) (by first | assumption | exact hGr _ _ _ rfl) dX9_evening_1 ?_
  refine G_al0 hC dX9_evening_4 ?_
  refine G_getR hC fl_X9_76 (by first | assumption | rfl) (by omega) (by first | assumption | exact hGr _ _ _ rfl) dX9_evening_5 ?_
  refine G_getI hC fl_X9_137 (by first | assumption | rfl) (by omega) dX9_evening_8 ?_
  rw [f1.1]
  refine G_al0 hC dX9_evening_11 ?_
  refine G_getR hC fl_X9_76 (by first | assumption | rfl) (by omega) (by first | assumption | exact hGr _ _ _ rfl) dX9_evening_12 ?_
  refine G_getI hC fl_X9_148 (by first | assumption | rfl) (by omega) dX9_evening_15 ?_
  rw [f1.2.2]
  refine G_callVI hC (c_X7_worthTogether hGr hT8 i1 hlo (by rw [t4]; exact hcm)) mv_X9_196 (by first | assumption | rfl) (by omega) (by decide) rfl (by decide) dX9_evening_18 rfl (Nat.le_of_ble_eq_true rfl) rfl (fun z18 M18 P18 h18 => ?_)
  obtain ⟨rfl, rfl, rfl⟩ := h18
  exact G_iret hC hQ dX9_evening_21 ⟨_, rfl, by unfold eveS; rw [t4], hI, eqx.refl, PX.refl⟩
set_option maxHeartbeats 4000000 in
set_option maxRecDepth 100000 in
theorem c_X9_hands {l : Launch} {c : Nat} {S : AS} {i j : Int} {M : Mem} {P : PMem} (hI : CIv c M P S) (hi : i32r i) (hj0 : i32r j) : CtI l yX9_hands cX9_hands 3 (some .int) 2 45 45 [vR 0, vI i, vI j] M P (cR c M P S (handsS S i j)) := by
  refine Ct_of (own := RX9) (L := [vR 0, vI i, vI j]) (by decide) rfl rfl (Nat.le_of_ble_eq_true rfl) (fun X Y hl hC hQ => ?_)
  obtain ⟨⟨hGr, wa, wb, hw, hwa, hwb⟩, hS, hA, hT, hF, N, lq, hL⟩ := id hI
  obtain ⟨s1, ⟨s2, s3, s4, s5, s6, s7, s8⟩, ⟨s9, s10, s11, s12⟩, s13, s14, s15, s16, s17, s18⟩ := id hS
  obtain ⟨m1, m2, m3, m4⟩ := id s14
  obtain ⟨f1, f2, f3, f4⟩ := id hF
  obtain ⟨t1, t2, t3, t4, t5⟩ := id hT
  obtain ⟨i1, i2, i3, i4⟩ := id hL.1
  obtain ⟨hR0, hR2, hR6, hRr, hRr1, hRk, hRw⟩ := id i1
  have hT8 : isT 8 := Or.inr (Or.inl rfl)
  have hlo := m1.lo
  unfold i32r at *
  by_cases hg : isG S i
  · by_cases hj : isG S j
    · obtain ⟨g, rfl⟩ : ∃ g : Nat, i = (g : Int) := ⟨i.toNat, by have := hg.1; omega⟩
      obtain ⟨e, rfl⟩ : ∃ e : Nat, j = (e : Int) := ⟨j.toNat, by have := hj.1; omega⟩
      have hg2 := hg.2
      have hj2 := hj.2
      refine G_al0 hC dX9_hands_0 ?_
      refine G_il1 hC dX9_hands_1 ?_
      refine G_callVI hC (c_X9_isGuest1 hI (by unfold i32r; omega) hg) mv_X9_154 (by first | assumption | rfl) (by omega) (by decide) rfl (by decide) dX9_hands_2 rfl (Nat.le_of_ble_eq_true rfl) rfl (fun z2 M2 P2 h2 => ?_)
      obtain ⟨rfl, rfl, rfl⟩ := h2
      refine G_if_eq (tgt := 16) hC dX9_hands_5 (by decide) (by omega) (fun c5 => ?_) (fun c5 => ?_)
      · exact absurd c5 (by omega)
      · refine G_al0 hC dX9_hands_8 ?_
        refine G_il2 hC dX9_hands_9 ?_
        refine G_callVI hC (c_X9_isGuest1 hI (by unfold i32r; omega) hj) mv_X9_154 (by first | assumption | rfl) (by omega) (by decide) rfl (by decide) dX9_hands_10 rfl (Nat.le_of_ble_eq_true rfl) rfl (fun z10 M10 P10 h10 => ?_)
        obtain ⟨rfl, rfl, rfl⟩ := h10
        refine G_if_ne (tgt := 18) hC dX9_hands_13 (by decide) (by omega) (fun c13 => ?_) (fun c13 => ?_)
        · refine G_al0 hC dX9_hands_18 ?_
          refine G_getR hC fl_X9_29 (by first | assumption | rfl) (by omega) (by first | assumption | exact hGr _ _ _ rfl) dX9_hands_19 ?_
          refine G_il1 hC dX9_hands_22 ?_
          refine G_il2 hC dX9_hands_23 ?_
          refine G_callVI hC (c_X7_stepsBetween (i := g) (j := e) hGr hT8 i1 (by omega) (by omega)) mv_X9_178 (by first | assumption | rfl) (by omega) (by decide) rfl (by decide) dX9_hands_24 rfl (Nat.le_of_ble_eq_true rfl) rfl (fun z24 M24 P24 h24 => ?_)
          obtain ⟨rfl, rfl, rfl⟩ := h24
          exact G_iret hC hQ dX9_hands_27 ⟨_, rfl, by unfold handsS; rw [if_pos ⟨hg, hj⟩]; simp, hI, eqx.refl, PX.refl⟩
        · exact absurd c13 (by omega)
    · refine G_al0 hC dX9_hands_0 ?_
      refine G_il1 hC dX9_hands_1 ?_
      refine G_callVI hC (c_X9_isGuest1 hI (by unfold i32r; omega) hg) mv_X9_154 (by first | assumption | rfl) (by omega) (by decide) rfl (by decide) dX9_hands_2 rfl (Nat.le_of_ble_eq_true rfl) rfl (fun z2 M2 P2 h2 => ?_)
      obtain ⟨rfl, rfl, rfl⟩ := h2
      refine G_if_eq (tgt := 16) hC dX9_hands_5 (by decide) (by omega) (fun c5 => ?_) (fun c5 => ?_)
      · exact absurd c5 (by omega)
      · refine G_al0 hC dX9_hands_8 ?_
        refine G_il2 hC dX9_hands_9 ?_
        refine G_callVI hC (c_X9_isGuest0 hI (by unfold i32r; omega) hj) mv_X9_154 (by first | assumption | rfl) (by omega) (by decide) rfl (by decide) dX9_hands_10 rfl (Nat.le_of_ble_eq_true rfl) rfl (fun z10 M10 P10 h10 => ?_)
        obtain ⟨rfl, rfl, rfl⟩ := h10
        refine G_if_ne (tgt := 18) hC dX9_hands_13 (by decide) (by omega) (fun c13 => ?_) (fun c13 => ?_)
        · exact absurd rfl c13
        · refine G_iconst hC dX9_hands_16 ?_
          exact G_iret hC hQ dX9_hands_17 ⟨_, rfl, by unfold handsS; rw [if_neg (fun z => hj z.2)], hI, eqx.refl, PX.refl⟩
  · refine G_al0 hC dX9_hands_0 ?_
    refine G_il1 hC dX9_hands_1 ?_
    refine G_callVI hC (c_X9_isGuest0 hI (by unfold i32r; omega) hg) mv_X9_154 (by first | assumption | rfl) (by omega) (by decide) rfl (by decide) dX9_hands_2 rfl (Nat.le_of_ble_eq_true rfl) rfl (fun z2 M2 P2 h2 => ?_)
    obtain ⟨rfl, rfl, rfl⟩ := h2
    refine G_if_eq (tgt := 16) hC dX9_hands_5 (by decide) (by omega) (fun c5 => ?_) (fun c5 => ?_)
    · refine G_iconst hC dX9_hands_16 ?_
      exact G_iret hC hQ dX9_hands_17 ⟨_, rfl, by unfold handsS; rw [if_neg (fun z => hg z.1)], hI, eqx.refl, PX.refl⟩
    · exact absurd rfl c5
set_option maxHeartbeats 4000000 in
set_option maxRecDepth 100000 in
theorem c_X9_worth {l : Launch} {c : Nat} {S : AS} {i d m : Int} {M : Mem} {P : PMem} (hI : CIv c M P S) (hi : i32r i) (hd0 : i32r d) (hm0 : i32r m) : CtI l yX9_worth cX9_worth 4 (some .int) 2 45 45 [vR 0, vI i, vI d, vI m] M P (cR c M P S (worthS S i d m)) := by
  refine Ct_of (own := RX9) (L := [vR 0, vI i, vI d, vI m]) (by decide) rfl rfl (Nat.le_of_ble_eq_true rfl) (fun X Y hl hC hQ => ?_)
  obtain ⟨⟨hGr, wa, wb, hw, hwa, hwb⟩, hS, hA, hT, hF, N, lq, hL⟩ := id hI
  obtain ⟨s1, ⟨s2, s3, s4, s5, s6, s7, s8⟩, ⟨s9, s10, s11, s12⟩, s13, s14, s15, s16, s17, s18⟩ := id hS
  obtain ⟨m1, m2, m3, m4⟩ := id s14
  obtain ⟨f1, f2, f3, f4⟩ := id hF
  obtain ⟨t1, t2, t3, t4, t5⟩ := id hT
  obtain ⟨i1, i2, i3, i4⟩ := id hL.1
  obtain ⟨hR0, hR2, hR6, hRr, hRr1, hRk, hRw⟩ := id i1
  have hT8 : isT 8 := Or.inr (Or.inl rfl)
  have hlo := m1.lo
  unfold i32r at *
  by_cases hg : isG S i
  · by_cases hd : isD S d
    · by_cases hm : 0 ≤ m ∧ m ≤ 99
      · obtain ⟨g, rfl⟩ : ∃ g : Nat, i = (g : Int) := ⟨i.toNat, by have := hg.1; omega⟩
        obtain ⟨e, rfl⟩ : ∃ e : Nat, d = (e : Int) := ⟨d.toNat, by have := hd.1; omega⟩
        have hg2 := hg.2
        have hd2 := hd.2
        have hcm := mul_rng (a := (sCo S : Int)) (b := m) (A := 9) (B := 99) (by omega) (by omega)
        refine G_al0 hC dX9_worth_0 ?_
        refine G_il1 hC dX9_worth_1 ?_
        refine G_callVI hC (c_X9_isGuest1 hI (by unfold i32r; omega) hg) mv_X9_154 (by first | assumption | rfl) (by omega) (by decide) rfl (by decide) dX9_worth_2 rfl (Nat.le_of_ble_eq_true rfl) rfl (fun z2 M2 P2 h2 => ?_)
        obtain ⟨rfl, rfl, rfl⟩ := h2
        refine G_if_eq (tgt := 26) hC dX9_worth_5 (by decide) (by omega) (fun c5 => ?_) (fun c5 => ?_)
        · exact absurd c5 (by omega)
        · refine G_al0 hC dX9_worth_8 ?_
          refine G_il2 hC dX9_worth_9 ?_
          refine G_callVI hC (c_X9_isDish1 hI (by unfold i32r; omega) hd) mv_X9_171 (by first | assumption | rfl) (by omega) (by decide) rfl (by decide) dX9_worth_10 rfl (Nat.le_of_ble_eq_true rfl) rfl (fun z10 M10 P10 h10 => ?_)
          obtain ⟨rfl, rfl, rfl⟩ := h10
          refine G_if_eq (tgt := 26) hC dX9_worth_13 (by decide) (by omega) (fun c13 => ?_) (fun c13 => ?_)
          · exact absurd c13 (by omega)
          · refine G_il3 hC dX9_worth_16 ?_
            refine G_if_lt (tgt := 26) hC dX9_worth_17 (by decide) (by omega) (fun c17 => ?_) (fun c17 => ?_)
            · exact absurd c17 (by omega)
            · refine G_il3 hC dX9_worth_20 ?_
              refine G_bipush hC dX9_worth_21 (by decide) ?_
              refine G_icmp_le (tgt := 28) hC dX9_worth_23 (by decide) (by omega) (by omega) (fun c23 => ?_) (fun c23 => ?_)
              · refine G_al0 hC dX9_worth_28 ?_
                refine G_getR hC fl_X9_29 (by first | assumption | rfl) (by omega) (by first | assumption | exact hGr _ _ _ rfl) dX9_worth_29 ?_
                refine G_il1 hC dX9_worth_32 ?_
                refine G_il2 hC dX9_worth_33 ?_
                refine G_il3 hC dX9_worth_34 ?_
                refine G_callVI hC (c_X7_worthAt (g := g) (d := e) hGr hT8 i1 (by omega) (by omega) (by rw [t4]; omega)) mv_X9_174 (by first | assumption | rfl) (by omega) (by decide) rfl (by decide) dX9_worth_35 rfl (Nat.le_of_ble_eq_true rfl) rfl (fun z35 M35 P35 h35 => ?_)
                obtain ⟨rfl, rfl, rfl⟩ := h35
                exact G_iret hC hQ dX9_worth_38 ⟨_, rfl, by unfold worthS; rw [if_pos ⟨hg, hd, hm⟩, t4]; simp, hI, eqx.refl, PX.refl⟩
              · exact absurd c23 (by omega)
      · refine G_al0 hC dX9_worth_0 ?_
        refine G_il1 hC dX9_worth_1 ?_
        refine G_callVI hC (c_X9_isGuest1 hI (by unfold i32r; omega) hg) mv_X9_154 (by first | assumption | rfl) (by omega) (by decide) rfl (by decide) dX9_worth_2 rfl (Nat.le_of_ble_eq_true rfl) rfl (fun z2 M2 P2 h2 => ?_)
        obtain ⟨rfl, rfl, rfl⟩ := h2
        refine G_if_eq (tgt := 26) hC dX9_worth_5 (by decide) (by omega) (fun c5 => ?_) (fun c5 => ?_)
        · exact absurd c5 (by omega)
        · refine G_al0 hC dX9_worth_8 ?_
          refine G_il2 hC dX9_worth_9 ?_
          refine G_callVI hC (c_X9_isDish1 hI (by unfold i32r; omega) hd) mv_X9_171 (by first | assumption | rfl) (by omega) (by decide) rfl (by decide) dX9_worth_10 rfl (Nat.le_of_ble_eq_true rfl) rfl (fun z10 M10 P10 h10 => ?_)
          obtain ⟨rfl, rfl, rfl⟩ := h10
          refine G_if_eq (tgt := 26) hC dX9_worth_13 (by decide) (by omega) (fun c13 => ?_) (fun c13 => ?_)
          · exact absurd c13 (by omega)
          · refine G_il3 hC dX9_worth_16 ?_
            refine G_if_lt (tgt := 26) hC dX9_worth_17 (by decide) (by omega) (fun c17 => ?_) (fun c17 => ?_)
            · refine G_iconst hC dX9_worth_26 ?_
              exact G_iret hC hQ dX9_worth_27 ⟨_, rfl, by unfold worthS; rw [if_neg (fun z => hm z.2.2)], hI, eqx.refl, PX.refl⟩
            · refine G_il3 hC dX9_worth_20 ?_
              refine G_bipush hC dX9_worth_21 (by decide) ?_
              refine G_icmp_le (tgt := 28) hC dX9_worth_23 (by decide) (by omega) (by omega) (fun c23 => ?_) (fun c23 => ?_)
              · exact absurd ⟨by omega, by omega⟩ hm
              · refine G_iconst hC dX9_worth_26 ?_
                exact G_iret hC hQ dX9_worth_27 ⟨_, rfl, by unfold worthS; rw [if_neg (fun z => hm z.2.2)], hI, eqx.refl, PX.refl⟩
    · refine G_al0 hC dX9_worth_0 ?_
      refine G_il1 hC dX9_worth_1 ?_
      refine G_callVI hC (c_X9_isGuest1 hI (by unfold i32r; omega) hg) mv_X9_154 (by first | assumption | rfl) (by omega) (by decide) rfl (by decide) dX9_worth_2 rfl (Nat.le_of_ble_eq_true rfl) rfl (fun z2 M2 P2 h2 => ?_)
      obtain ⟨rfl, rfl, rfl⟩ := h2
      refine G_if_eq (tgt := 26) hC dX9_worth_5 (by decide) (by omega) (fun c5 => ?_) (fun c5 => ?_)
      · exact absurd c5 (by omega)
      · refine G_al0 hC dX9_worth_8 ?_
        refine G_il2 hC dX9_worth_9 ?_
        refine G_callVI hC (c_X9_isDish0 hI (by unfold i32r; omega) hd) mv_X9_171 (by first | assumption | rfl) (by omega) (by decide) rfl (by decide) dX9_worth_10 rfl (Nat.le_of_ble_eq_true rfl) rfl (fun z10 M10 P10 h10 => ?_)
        obtain ⟨rfl, rfl, rfl⟩ := h10
        refine G_if_eq (tgt := 26) hC dX9_worth_13 (by decide) (by omega) (fun c13 => ?_) (fun c13 => ?_)
        · refine G_iconst hC dX9_worth_26 ?_
          exact G_iret hC hQ dX9_worth_27 ⟨_, rfl, by unfold worthS; rw [if_neg (fun z => hd z.2.1)], hI, eqx.refl, PX.refl⟩
        · exact absurd rfl c13
  · refine G_al0 hC dX9_worth_0 ?_
    refine G_il1 hC dX9_worth_1 ?_
    refine G_callVI hC (c_X9_isGuest0 hI (by unfold i32r; omega) hg) mv_X9_154 (by first | assumption | rfl) (by omega) (by decide) rfl (by decide) dX9_worth_2 rfl (Nat.le_of_ble_eq_true rfl) rfl (fun z2 M2 P2 h2 => ?_)
    obtain ⟨rfl, rfl, rfl⟩ := h2
    refine G_if_eq (tgt := 26) hC dX9_worth_5 (by decide) (by omega) (fun c5 => ?_) (fun c5 => ?_)
    · refine G_iconst hC dX9_worth_26 ?_
      exact G_iret hC hQ dX9_worth_27 ⟨_, rfl, by unfold worthS; rw [if_neg (fun z => hg z.1)], hI, eqx.refl, PX.refl⟩
    · exact absurd rfl c5
set_option maxHeartbeats 4000000 in
set_option maxRecDepth 100000 in
theorem c_X9_guest {l : Launch} {c : Nat} {S : AS} {i k : Int} {M : Mem} {P : PMem} (hI : CIv c M P S) (hi : i32r i) (hk0 : i32r k) : CtI l yX9_guest cX9_guest 3 (some .int) 2 43 45 [vR 0, vI i, vI k] M P (cR c M P S (guestS S i k)) := by
  refine Ct_of (own := RX9) (L := [vR 0, vI i, vI k]) (by decide) rfl rfl (Nat.le_of_ble_eq_true rfl) (fun X Y hl hC hQ => ?_)
  obtain ⟨⟨hGr, wa, wb, hw, hwa, hwb⟩, hS, hA, hT, hF, N, lq, hL⟩ := id hI
  obtain ⟨s1, ⟨s2, s3, s4, s5, s6, s7, s8⟩, ⟨s9, s10, s11, s12⟩, s13, s14, s15, s16, s17, s18⟩ := id hS
  obtain ⟨m1, m2, m3, m4⟩ := id s14
  obtain ⟨f1, f2, f3, f4⟩ := id hF
  obtain ⟨t1, t2, t3, t4, t5⟩ := id hT
  obtain ⟨i1, i2, i3, i4⟩ := id hL.1
  obtain ⟨hR0, hR2, hR6, hRr, hRr1, hRk, hRw⟩ := id i1
  have hT8 : isT 8 := Or.inr (Or.inl rfl)
  have hlo := m1.lo
  unfold i32r at *
  by_cases hg : isG S i
  · obtain ⟨g, rfl⟩ : ∃ g : Nat, i = (g : Int) := ⟨i.toNat, by have := hg.1; omega⟩
    have hg2 := hg.2
    refine G_al0 hC dX9_guest_0 ?_
    refine G_il1 hC dX9_guest_1 ?_
    refine G_callVI hC (c_X9_isGuest1 hI (by unfold i32r; omega) hg) mv_X9_154 (by first | assumption | rfl) (by omega) (by decide) rfl (by decide) dX9_guest_2 rfl (Nat.le_of_ble_eq_true rfl) rfl (fun z2 M2 P2 h2 => ?_)
    obtain ⟨rfl, rfl, rfl⟩ := h2
    refine G_if_ne (tgt := 10) hC dX9_guest_5 (by decide) (by omega) (fun c5 => ?_) (fun c5 => ?_)
    · refine G_il2 hC dX9_guest_10 ?_
      by_cases e0 : k = 0
      · subst e0
        refine G_tabIn (off := 29) (tgt := 40) hC dX9_guest_11 (by omega) (by omega) (by omega) rfl (by decide) ?_
        refine G_al0 hC dX9_guest_40 ?_
        refine G_getR hC fl_X9_29 (by first | assumption | rfl) (by omega) (by first | assumption | exact hGr _ _ _ rfl) dX9_guest_41 ?_
        refine G_il1 hC dX9_guest_44 ?_
        refine G_callVI hC (c_X7_kindOf hGr hT8 (by omega)) mv_X9_158 (by first | assumption | rfl) (by omega) (by decide) rfl (by decide) dX9_guest_45 rfl (Nat.le_of_ble_eq_true rfl) rfl (fun z45 M45 P45 h45 => ?_)
        obtain ⟨rfl, rfl, rfl⟩ := h45
        exact G_iret hC hQ dX9_guest_48 ⟨_, rfl, by unfold guestS; rw [if_pos hg, if_pos rfl, (hRk g (by omega)).1]; simp, hI, eqx.refl, PX.refl⟩
      by_cases e1 : k = 1
      · subst e1
        refine G_tabIn (off := 38) (tgt := 49) hC dX9_guest_11 (by omega) (by omega) (by omega) rfl (by decide) ?_
        refine G_al0 hC dX9_guest_49 ?_
        refine G_il1 hC dX9_guest_50 ?_
        refine G_callVI hC (c_X9_dishOrNone hGr hlo f1.1 (by omega)) mv_X9_161 (by first | assumption | rfl) (by omega) (by decide) rfl (by decide) dX9_guest_51 rfl (Nat.le_of_ble_eq_true rfl) rfl (fun z51 M51 P51 h51 => ?_)
        obtain ⟨rfl, rfl, rfl⟩ := h51
        exact G_iret hC hQ dX9_guest_54 ⟨_, rfl, by unfold guestS; rw [if_pos hg, if_neg (by omega), if_pos rfl]; simp, hI, eqx.refl, PX.refl⟩
      by_cases e2 : k = 2
      · subst e2
        refine G_tabIn (off := 44) (tgt := 55) hC dX9_guest_11 (by omega) (by omega) (by omega) rfl (by decide) ?_
        refine G_al0 hC dX9_guest_55 ?_
        refine G_getR hC fl_X9_29 (by first | assumption | rfl) (by omega) (by first | assumption | exact hGr _ _ _ rfl) dX9_guest_56 ?_
        refine G_il1 hC dX9_guest_59 ?_
        refine G_callVI hC (c_X7_wantsOf hGr hT8 (by omega)) mv_X9_164 (by first | assumption | rfl) (by omega) (by decide) rfl (by decide) dX9_guest_60 rfl (Nat.le_of_ble_eq_true rfl) rfl (fun z60 M60 P60 h60 => ?_)
        obtain ⟨rfl, rfl, rfl⟩ := h60
        exact G_iret hC hQ dX9_guest_63 ⟨_, rfl, by unfold guestS; rw [if_pos hg, if_neg (by omega), if_neg (by omega), if_pos rfl, (t1 g (by omega)).1]; simp, hI, eqx.refl, PX.refl⟩
      by_cases e3 : k = 3
      · subst e3
        refine G_tabIn (off := 53) (tgt := 64) hC dX9_guest_11 (by omega) (by omega) (by omega) rfl (by decide) ?_
        refine G_al0 hC dX9_guest_64 ?_
        refine G_getR hC fl_X9_76 (by first | assumption | rfl) (by omega) (by first | assumption | exact hGr _ _ _ rfl) dX9_guest_65 ?_
        refine G_getL hC fl_X9_144 (by first | assumption | rfl) (by omega) dX9_guest_68 ?_
        rw [f1.2.1]
        refine G_il1 hC dX9_guest_71 ?_
        refine G_callSI hC (c_X9_bitsOf m3 (by omega)) ms_X9_167 (by decide) rfl (by decide) dX9_guest_72 rfl (Nat.le_of_ble_eq_true rfl) rfl (fun z72 M72 P72 h72 => ?_)
        obtain ⟨rfl, rfl, rfl⟩ := h72
        exact G_iret hC hQ dX9_guest_75 ⟨_, rfl, by unfold guestS; rw [if_pos hg, if_neg (by omega), if_neg (by omega), if_neg (by omega), if_pos rfl]; simp, hI, eqx.refl, PX.refl⟩
      refine G_tabOut (tgt := 76) hC dX9_guest_11 (by omega) (by omega) (by decide) ?_
      refine G_iconst hC dX9_guest_76 ?_
      exact G_iret hC hQ dX9_guest_77 ⟨_, rfl, by unfold guestS; rw [if_pos hg, if_neg e0, if_neg e1, if_neg e2, if_neg e3], hI, eqx.refl, PX.refl⟩
    · exact absurd c5 (by omega)
  · refine G_al0 hC dX9_guest_0 ?_
    refine G_il1 hC dX9_guest_1 ?_
    refine G_callVI hC (c_X9_isGuest0 hI (by unfold i32r; omega) hg) mv_X9_154 (by first | assumption | rfl) (by omega) (by decide) rfl (by decide) dX9_guest_2 rfl (Nat.le_of_ble_eq_true rfl) rfl (fun z2 M2 P2 h2 => ?_)
    obtain ⟨rfl, rfl, rfl⟩ := h2
    refine G_if_ne (tgt := 10) hC dX9_guest_5 (by decide) (by omega) (fun c5 => ?_) (fun c5 => ?_)
    · exact absurd rfl c5
    · refine G_iconst hC dX9_guest_8 ?_
      exact G_iret hC hQ dX9_guest_9 ⟨_, rfl, by unfold guestS; rw [if_neg hg], hI, eqx.refl, PX.refl⟩
set_option maxHeartbeats 4000000 in
set_option maxRecDepth 100000 in
theorem c_X9_count {l : Launch} {c : Nat} {S : AS} {k : Int} {M : Mem} {P : PMem} (hI : CIv c M P S) (hk0 : i32r k) : CtI l yX9_count cX9_count 2 (some .int) 0 0 45 [vR 0, vI k] M P (cR c M P S (countS S k)) := by
  refine Ct_of (own := RX9) (L := [vR 0, vI k]) (by decide) rfl rfl (Nat.le_of_ble_eq_true rfl) (fun X Y hl hC hQ => ?_)
  obtain ⟨⟨hGr, wa, wb, hw, hwa, hwb⟩, hS, hA, hT, hF, N, lq, hL⟩ := id hI
  obtain ⟨s1, ⟨s2, s3, s4, s5, s6, s7, s8⟩, ⟨s9, s10, s11, s12⟩, s13, s14, s15, s16, s17, s18⟩ := id hS
  obtain ⟨m1, m2, m3, m4⟩ := id s14
  obtain ⟨f1, f2, f3, f4⟩ := id hF
  obtain ⟨t1, t2, t3, t4, t5⟩ := id hT
  obtain ⟨i1, i2, i3, i4⟩ := id hL.1
  obtain ⟨hR0, hR2, hR6, hRr, hRr1, hRk, hRw⟩ := id i1
  have hT8 : isT 8 := Or.inr (Or.inl rfl)
  have hlo := m1.lo
  unfold i32r at *
  refine G_il1 hC dX9_count_0 ?_
  by_cases e0 : k = 0
  · subst e0
    refine G_tabIn (off := 43) (tgt := 44) hC dX9_count_1 (by omega) (by omega) (by omega) rfl (by decide) ?_
    refine G_al0 hC dX9_count_44 ?_
    refine G_getR hC fl_X9_29 (by first | assumption | rfl) (by omega) (by first | assumption | exact hGr _ _ _ rfl) dX9_count_45 ?_
    refine G_getI hC fl_X9_118 (by first | assumption | rfl) (by omega) dX9_count_48 ?_
    rw [hR0]
    exact G_iret hC hQ dX9_count_51 ⟨_, rfl, by unfold countS; simp, hI, eqx.refl, PX.refl⟩
  by_cases e1 : k = 1
  · subst e1
    refine G_tabIn (off := 51) (tgt := 52) hC dX9_count_1 (by omega) (by omega) (by omega) rfl (by decide) ?_
    refine G_al0 hC dX9_count_52 ?_
    refine G_getR hC fl_X9_29 (by first | assumption | rfl) (by omega) (by first | assumption | exact hGr _ _ _ rfl) dX9_count_53 ?_
    refine G_getI hC fl_X9_271 (by first | assumption | rfl) (by omega) dX9_count_56 ?_
    rw [t2]
    exact G_iret hC hQ dX9_count_59 ⟨_, rfl, by unfold countS; simp, hI, eqx.refl, PX.refl⟩
  by_cases e2 : k = 2
  · subst e2
    refine G_tabIn (off := 59) (tgt := 60) hC dX9_count_1 (by omega) (by omega) (by omega) rfl (by decide) ?_
    refine G_al0 hC dX9_count_60 ?_
    refine G_getR hC fl_X9_76 (by first | assumption | rfl) (by omega) (by first | assumption | exact hGr _ _ _ rfl) dX9_count_61 ?_
    refine G_getI hC fl_X9_148 (by first | assumption | rfl) (by omega) dX9_count_64 ?_
    rw [f1.2.2]
    exact G_iret hC hQ dX9_count_67 ⟨_, rfl, by unfold countS; simp, hI, eqx.refl, PX.refl⟩
  by_cases e3 : k = 3
  · subst e3
    refine G_tabIn (off := 67) (tgt := 68) hC dX9_count_1 (by omega) (by omega) (by omega) rfl (by decide) ?_
    refine G_al0 hC dX9_count_68 ?_
    refine G_getR hC fl_X9_85 (by first | assumption | rfl) (by omega) (by first | assumption | exact hGr _ _ _ rfl) dX9_count_69 ?_
    refine G_getI hC fl_X9_151 (by first | assumption | rfl) (by omega) dX9_count_72 ?_
    rw [f3.1]
    exact G_iret hC hQ dX9_count_75 ⟨_, rfl, by unfold countS; simp, hI, eqx.refl, PX.refl⟩
  by_cases e4 : k = 4
  · subst e4
    refine G_tabIn (off := 75) (tgt := 76) hC dX9_count_1 (by omega) (by omega) (by omega) rfl (by decide) ?_
    refine G_al0 hC dX9_count_76 ?_
    refine G_getR hC fl_X9_89 (by first | assumption | rfl) (by omega) (by first | assumption | exact hGr _ _ _ rfl) dX9_count_77 ?_
    refine G_getI hC fl_X9_151 (by first | assumption | rfl) (by omega) dX9_count_80 ?_
    rw [f4.1]
    exact G_iret hC hQ dX9_count_83 ⟨_, rfl, by unfold countS; simp, hI, eqx.refl, PX.refl⟩
  by_cases e5 : k = 5
  · subst e5
    refine G_tabIn (off := 83) (tgt := 84) hC dX9_count_1 (by omega) (by omega) (by omega) rfl (by decide) ?_
    refine G_al0 hC dX9_count_84 ?_
    refine G_getI hC fl_X9_104 (by first | assumption | rfl) (by omega) dX9_count_85 ?_
    rw [hA.2.1]
    exact G_iret hC hQ dX9_count_88 ⟨_, rfl, by unfold countS; simp, hI, eqx.refl, PX.refl⟩
  by_cases e6 : k = 6
  · subst e6
    refine G_tabIn (off := 88) (tgt := 89) hC dX9_count_1 (by omega) (by omega) (by omega) rfl (by decide) ?_
    refine G_al0 hC dX9_count_89 ?_
    refine G_getR hC fl_X9_29 (by first | assumption | rfl) (by omega) (by first | assumption | exact hGr _ _ _ rfl) dX9_count_90 ?_
    refine G_getI hC fl_X9_274 (by first | assumption | rfl) (by omega) dX9_count_93 ?_
    rw [hRr]
    exact G_iret hC hQ dX9_count_96 ⟨_, rfl, by unfold countS; simp, hI, eqx.refl, PX.refl⟩
  refine G_tabOut (tgt := 97) hC dX9_count_1 (by omega) (by omega) (by decide) ?_
  refine G_iconst hC dX9_count_97 ?_
  exact G_iret hC hQ dX9_count_98 ⟨_, rfl, by unfold countS; rw [if_neg e0, if_neg e1, if_neg e2, if_neg e3, if_neg e4, if_neg e5, if_neg e6], hI, eqx.refl, PX.refl⟩
theorem lkJ_r {T : TB} {f : Nat → Nat} {i : Nat} : ∀ c j (s : Int × Int), 0 ≤ s.1 → 0 ≤ (lkJ T f i c j s).1 ∧ (lkJ T f i c j s).1 ≤ s.1 + c
  | 0, _, s, h => ⟨h, by show s.1 ≤ s.1 + ((0 : Nat) : Int); omega⟩
  | c + 1, j, s, h => by
    unfold lkJ
    split
    · have := lkJ_r (T := T) (f := f) (i := i) c (j + 1) (s.1 + 1, if s.1 = 0 then 10 * (i : Int) + j else s.2) (by show 0 ≤ s.1 + 1; omega)
      have e : (s.1 + 1, if s.1 = 0 then 10 * (i : Int) + j else s.2).1 = s.1 + 1 := rfl
      rw [e] at this
      omega
    · have := lkJ_r (T := T) (f := f) (i := i) c (j + 1) s h
      omega
set_option maxHeartbeats 4000000 in
set_option maxRecDepth 100000 in
theorem c_X9_liked {l : Launch} {c : Nat} {S : AS} {k : Int} {M : Mem} {P : PMem} (hI : CIv c M P S) (hk0 : i32r k) : CtI l yX9_liked cX9_liked 6 (some .int) 2 47 45 [vR 0, vI k] M P (cR c M P S (likedS S k)) := by
  refine Ct_of (own := RX9) (L := [vR 0, vI k, vX 1, vX 1, vX 1, vX 1]) (by decide) rfl rfl (Nat.le_of_ble_eq_true rfl) (fun X Y hl hC hQ => ?_)
  obtain ⟨⟨hGr, wa, wb, hw, hwa, hwb⟩, hS, hA, hT, hF, N, lq, hL⟩ := id hI
  obtain ⟨s1, ⟨s2, s3, s4, s5, s6, s7, s8⟩, ⟨s9, s10, s11, s12⟩, s13, s14, s15, s16, s17, s18⟩ := id hS
  obtain ⟨m1, m2, m3, m4⟩ := id s14
  obtain ⟨f1, f2, f3, f4⟩ := id hF
  obtain ⟨t1, t2, t3, t4, t5⟩ := id hT
  obtain ⟨i1, i2, i3, i4⟩ := id hL.1
  obtain ⟨hR0, hR2, hR6, hRr, hRr1, hRk, hRw⟩ := id i1
  have hT8 : isT 8 := Or.inr (Or.inl rfl)
  have hlo := m1.lo
  unfold i32r at *
  by_cases hy : 0 ≤ k ∧ k ≤ 1
  · have hend : ∀ (a b : Int) (x4 x5 : AV), 0 ≤ a → a ≤ 1000 → (a, b) = lkI (sT S) (sNow S).1 (tn (sT S)) 0 (0, -4) → G X Y 102 [vR 0, vI k, vI a, vI b, x4, x5] [] M P := by
      intro a b x4 x5 ha1 ha2 hX
      have hX := hX.symm
      refine G_il1 hC dX9_liked_102 ?_
      refine G_if_ne (tgt := 110) hC dX9_liked_103 (by decide) (by omega) (fun c103 => ?_) (fun c103 => ?_)
      · refine G_il3 hC dX9_liked_110 ?_
        exact G_iret hC hQ dX9_liked_111 ⟨_, rfl, by unfold likedS; rw [if_pos hy]; first | (rw [if_pos (by omega), hX]; done) | (rw [if_neg (by omega), hX]; done), hI, eqx.refl, PX.refl⟩
      · refine G_il2 hC dX9_liked_106 ?_
        refine G_goto (tgt := 111) hC dX9_liked_107 (by decide) ?_
        exact G_iret hC hQ dX9_liked_111 ⟨_, rfl, by unfold likedS; rw [if_pos hy]; first | (rw [if_pos (by omega), hX]; done) | (rw [if_neg (by omega), hX]; done), hI, eqx.refl, PX.refl⟩
    have hlJ : ∀ (i : Nat) (s2 : Int × Int), i < tn (sT S) → (∀ (iv a b : Int) (x5 : AV), iv = (i : Int) + 1 → (a, b) = lkJ (sT S) (sNow S).1 i (tn (sT S) - (i + 1)) (i + 1) s2 → 0 ≤ a → a ≤ s2.1 + 6 → G X Y 19 [vR 0, vI k, vI a, vI b, vI iv, x5] [] M P) → ∀ (c j : Nat) (iv jv a b : Int), j + c = tn (sT S) → i < j → iv = (i : Int) → jv = (j : Int) → 0 ≤ a → a + c ≤ s2.1 + 6 → s2.1 ≤ 500 → lkJ (sT S) (sNow S).1 i c j (a, b) = lkJ (sT S) (sNow S).1 i (tn (sT S) - (i + 1)) (i + 1) s2 → G X Y 37 [vR 0, vI k, vI a, vI b, vI iv, vI jv] [] M P := by
      intro i s2 hi hnext c
      induction c with
      | zero =>
        intro j iv jv a b hj hij e1 e2 ha1 ha2 hs2 he
        subst e1; subst e2
        refine G_il5 hC dX9_liked_37 ?_
        refine G_al0 hC dX9_liked_39 ?_
        refine G_getR hC fl_X9_29 (by first | assumption | rfl) (by omega) (by first | assumption | exact hGr _ _ _ rfl) dX9_liked_40 ?_
        refine G_getI hC fl_X9_118 (by first | assumption | rfl) (by omega) dX9_liked_43 ?_
        rw [hR0]
        refine G_icmp_ge (tgt := 96) hC dX9_liked_46 (by decide) (by omega) (by omega) (fun c46 => ?_) (fun c46 => ?_)
        · refine G_inc4 hC dX9_liked_96 rfl ?_
          refine G_goto (tgt := 19) hC dX9_liked_99 (by decide) ?_
          exact hnext _ _ _ _ rfl he (by omega) (by omega)
        · exact absurd c46 (by omega)
      | succ c ih =>
        intro j iv jv a b hj hij e1 e2 ha1 ha2 hs2 he
        subst e1; subst e2
        have hlk : lik (sT S) (sNow S).1 i j = 0 ∨ lik (sT S) (sNow S).1 i j = 1 := by unfold lik; split <;> omega
        replace he : lkJ (sT S) (sNow S).1 i c (j + 1) (if lik (sT S) (sNow S).1 i j = 1 then (a + 1, if a = 0 then 10 * (i : Int) + j else b) else (a, b)) = lkJ (sT S) (sNow S).1 i (tn (sT S) - (i + 1)) (i + 1) s2 := he
        rcases hlk with hlk | hlk
        · rw [if_neg (by omega)] at he
          refine G_il5 hC dX9_liked_37 ?_
          refine G_al0 hC dX9_liked_39 ?_
          refine G_getR hC fl_X9_29 (by first | assumption | rfl) (by omega) (by first | assumption | exact hGr _ _ _ rfl) dX9_liked_40 ?_
          refine G_getI hC fl_X9_118 (by first | assumption | rfl) (by omega) dX9_liked_43 ?_
          rw [hR0]
          refine G_icmp_ge (tgt := 96) hC dX9_liked_46 (by decide) (by omega) (by omega) (fun c46 => ?_) (fun c46 => ?_)
          · exact absurd c46 (by omega)
          · refine G_al0 hC dX9_liked_49 ?_
            refine G_getR hC fl_X9_29 (by first | assumption | rfl) (by omega) (by first | assumption | exact hGr _ _ _ rfl) dX9_liked_50 ?_
            refine G_al0 hC dX9_liked_53 ?_
            refine G_getR hC fl_X9_76 (by first | assumption | rfl) (by omega) (by first | assumption | exact hGr _ _ _ rfl) dX9_liked_54 ?_
            refine G_getI hC fl_X9_137 (by first | assumption | rfl) (by omega) dX9_liked_57 ?_
            rw [f1.1]
            refine G_il4 hC dX9_liked_60 ?_
            refine G_il5 hC dX9_liked_62 ?_
            refine G_callVI hC (c_X7_bothWouldLike hGr hT8 i1 hlo hi (by omega)) mv_X9_246 (by first | assumption | rfl) (by omega) (by decide) rfl (by decide) dX9_liked_64 rfl (Nat.le_of_ble_eq_true rfl) rfl (fun z64 M64 P64 h64 => ?_)
            obtain ⟨rfl, rfl, rfl⟩ := h64
            rw [hlk]
            refine G_if_eq (tgt := 90) hC dX9_liked_67 (by decide) (by omega) (fun c67 => ?_) (fun c67 => ?_)
            · refine G_inc5 hC dX9_liked_90 rfl ?_
              refine G_goto (tgt := 37) hC dX9_liked_93 (by decide) ?_
              exact ih (j + 1) _ _ _ _ (by omega) (by omega) rfl (by omega) (by omega) (by omega) hs2 he
            · exact absurd rfl c67
        · rw [if_pos hlk] at he
          refine G_il5 hC dX9_liked_37 ?_
          refine G_al0 hC dX9_liked_39 ?_
          refine G_getR hC fl_X9_29 (by first | assumption | rfl) (by omega) (by first | assumption | exact hGr _ _ _ rfl) dX9_liked_40 ?_
          refine G_getI hC fl_X9_118 (by first | assumption | rfl) (by omega) dX9_liked_43 ?_
          rw [hR0]
          refine G_icmp_ge (tgt := 96) hC dX9_liked_46 (by decide) (by omega) (by omega) (fun c46 => ?_) (fun c46 => ?_)
          · exact absurd c46 (by omega)
          · refine G_al0 hC dX9_liked_49 ?_
            refine G_getR hC fl_X9_29 (by first | assumption | rfl) (by omega) (by first | assumption | exact hGr _ _ _ rfl) dX9_liked_50 ?_
            refine G_al0 hC dX9_liked_53 ?_
            refine G_getR hC fl_X9_76 (by first | assumption | rfl) (by omega) (by first | assumption | exact hGr _ _ _ rfl) dX9_liked_54 ?_
            refine G_getI hC fl_X9_137 (by first | assumption | rfl) (by omega) dX9_liked_57 ?_
            rw [f1.1]
            refine G_il4 hC dX9_liked_60 ?_
            refine G_il5 hC dX9_liked_62 ?_
            refine G_callVI hC (c_X7_bothWouldLike hGr hT8 i1 hlo hi (by omega)) mv_X9_246 (by first | assumption | rfl) (by omega) (by decide) rfl (by decide) dX9_liked_64 rfl (Nat.le_of_ble_eq_true rfl) rfl (fun z64 M64 P64 h64 => ?_)
            obtain ⟨rfl, rfl, rfl⟩ := h64
            rw [hlk]
            refine G_if_eq (tgt := 90) hC dX9_liked_67 (by decide) (by omega) (fun c67 => ?_) (fun c67 => ?_)
            · exact absurd c67 (by omega)
            · refine G_il2 hC dX9_liked_70 ?_
              refine G_if_ne (tgt := 85) hC dX9_liked_71 (by decide) (by omega) (fun c71 => ?_) (fun c71 => ?_)
              · refine G_il3 hC dX9_liked_85 ?_
                refine G_is3 hC dX9_liked_86 rfl ?_
                refine G_inc2 hC dX9_liked_87 rfl ?_
                refine G_inc5 hC dX9_liked_90 rfl ?_
                refine G_goto (tgt := 37) hC dX9_liked_93 (by decide) ?_
                exact ih (j + 1) _ _ _ _ (by omega) (by omega) rfl (by omega) (by omega) (by omega) hs2 (by rw [← he]; congr 1; first | (rw [if_pos (by omega)]; done) | (rw [if_neg (by omega)]; done))
              · refine G_bipush hC dX9_liked_74 (by decide) ?_
                refine G_il4 hC dX9_liked_76 ?_
                refine G_imul hC dX9_liked_78 ?_
                refine G_il5 hC dX9_liked_79 ?_
                refine G_iadd hC dX9_liked_81 ?_
                refine G_goto (tgt := 86) hC dX9_liked_82 (by decide) ?_
                refine G_is3 hC dX9_liked_86 rfl ?_
                refine G_inc2 hC dX9_liked_87 rfl ?_
                refine G_inc5 hC dX9_liked_90 rfl ?_
                refine G_goto (tgt := 37) hC dX9_liked_93 (by decide) ?_
                exact ih (j + 1) _ _ _ _ (by omega) (by omega) rfl (by omega) (by omega) (by omega) hs2 (by rw [← he]; congr 1; first | (rw [if_pos (by omega)]; done) | (rw [if_neg (by omega)]; done))
    have hlI : ∀ (c i : Nat) (iv a b : Int) (x5 : AV), i + c = tn (sT S) → iv = (i : Int) → 0 ≤ a → a ≤ 6 * i → lkI (sT S) (sNow S).1 c i (a, b) = lkI (sT S) (sNow S).1 (tn (sT S)) 0 (0, -4) → G X Y 19 [vR 0, vI k, vI a, vI b, vI iv, x5] [] M P := by
      intro c
      induction c with
      | zero =>
        intro i iv a b x5 hi e1 ha1 ha2 he
        subst e1
        refine G_il4 hC dX9_liked_19 ?_
        refine G_al0 hC dX9_liked_21 ?_
        refine G_getR hC fl_X9_29 (by first | assumption | rfl) (by omega) (by first | assumption | exact hGr _ _ _ rfl) dX9_liked_22 ?_
        refine G_getI hC fl_X9_118 (by first | assumption | rfl) (by omega) dX9_liked_25 ?_
        rw [hR0]
        refine G_icmp_ge (tgt := 102) hC dX9_liked_28 (by decide) (by omega) (by omega) (fun c28 => ?_) (fun c28 => ?_)
        · exact hend _ _ _ _ (by omega) (by omega) he
        · exact absurd c28 (by omega)
      | succ c ih =>
        intro i iv a b x5 hi e1 ha1 ha2 he
        subst e1
        replace he : lkI (sT S) (sNow S).1 c (i + 1) (lkJ (sT S) (sNow S).1 i (tn (sT S) - (i + 1)) (i + 1) (a, b)) = lkI (sT S) (sNow S).1 (tn (sT S)) 0 (0, -4) := he
        refine G_il4 hC dX9_liked_19 ?_
        refine G_al0 hC dX9_liked_21 ?_
        refine G_getR hC fl_X9_29 (by first | assumption | rfl) (by omega) (by first | assumption | exact hGr _ _ _ rfl) dX9_liked_22 ?_
        refine G_getI hC fl_X9_118 (by first | assumption | rfl) (by omega) dX9_liked_25 ?_
        rw [hR0]
        refine G_icmp_ge (tgt := 102) hC dX9_liked_28 (by decide) (by omega) (by omega) (fun c28 => ?_) (fun c28 => ?_)
        · exact absurd c28 (by omega)
        · refine G_il4 hC dX9_liked_31 ?_
          refine G_iconst hC dX9_liked_33 ?_
          refine G_iadd hC dX9_liked_34 ?_
          refine G_is5 hC dX9_liked_35 rfl ?_
          exact hlJ i (a, b) (by omega) (fun iv a2 b2 x5 e1 e2 q1 q2 => ih (i + 1) _ _ _ _ (by omega) e1 q1 (by have q3 : a2 ≤ a + 6 := q2; omega) (by rw [e2]; exact he)) (tn (sT S) - (i + 1)) (i + 1) _ _ _ _ (by omega) (by omega) rfl (by omega) ha1 (by show a + _ ≤ a + 6; omega) (by show a ≤ 500; omega) rfl
    refine G_il1 hC dX9_liked_0 ?_
    refine G_if_lt (tgt := 9) hC dX9_liked_1 (by decide) (by omega) (fun c1 => ?_) (fun c1 => ?_)
    · exact absurd c1 (by omega)
    · refine G_il1 hC dX9_liked_4 ?_
      refine G_iconst hC dX9_liked_5 ?_
      refine G_icmp_le (tgt := 11) hC dX9_liked_6 (by decide) (by omega) (by omega) (fun c6 => ?_) (fun c6 => ?_)
      · refine G_iconst hC dX9_liked_11 ?_
        refine G_is2 hC dX9_liked_12 rfl ?_
        refine G_bipush hC dX9_liked_13 (by decide) ?_
        refine G_is3 hC dX9_liked_15 rfl ?_
        refine G_iconst hC dX9_liked_16 ?_
        refine G_is4 hC dX9_liked_17 rfl ?_
        exact hlI (tn (sT S)) 0 _ _ _ _ (by omega) rfl (by omega) (by omega) rfl
      · exact absurd c6 (by omega)
  · refine G_il1 hC dX9_liked_0 ?_
    refine G_if_lt (tgt := 9) hC dX9_liked_1 (by decide) (by omega) (fun c1 => ?_) (fun c1 => ?_)
    · refine G_iconst hC dX9_liked_9 ?_
      exact G_iret hC hQ dX9_liked_10 ⟨_, rfl, by unfold likedS; rw [if_neg hy], hI, eqx.refl, PX.refl⟩
    · refine G_il1 hC dX9_liked_4 ?_
      refine G_iconst hC dX9_liked_5 ?_
      refine G_icmp_le (tgt := 11) hC dX9_liked_6 (by decide) (by omega) (by omega) (fun c6 => ?_) (fun c6 => ?_)
      · exact absurd ⟨by omega, by omega⟩ hy
      · refine G_iconst hC dX9_liked_9 ?_
        exact G_iret hC hQ dX9_liked_10 ⟨_, rfl, by unfold likedS; rw [if_neg hy], hI, eqx.refl, PX.refl⟩
