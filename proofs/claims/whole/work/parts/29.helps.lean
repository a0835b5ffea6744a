/-! calls of the class: helpers and look-ups -/
set_option maxHeartbeats 4000000 in
set_option maxRecDepth 100000 in
theorem c_X9_isGuest1 {l : Launch} {c : Nat} {S : AS} {i : Int} {M : Mem} {P : PMem} (hI : CIv c M P S) (hi : i32r i) (hg : isG S i) : CtI l yX9_isGuest cX9_isGuest 2 (some .boolean) 0 0 45 [vR 0, vI i] M P (pI 1 M P) := by
  refine Ct_of (own := RX9) (L := [vR 0, vI i]) (by decide) rfl rfl (Nat.le_of_ble_eq_true rfl) (fun X Y hl hC hQ => ?_)
  obtain ⟨⟨hGr, wa, wb, hw, hwa, hwb⟩, hS, hA, hT, hF, N, lq, hL⟩ := id hI
  obtain ⟨s1, ⟨s2, s3, s4, s5, s6, s7, s8⟩, ⟨s9, s10, s11, s12⟩, s13, s14, s15, s16, s17, s18⟩ := id hS
  obtain ⟨m1, m2, m3, m4⟩ := id s14
  obtain ⟨f1, f2, f3, f4⟩ := id hF
  obtain ⟨t1, t2, t3, t4, t5⟩ := id hT
  obtain ⟨i1, i2, i3, i4⟩ := id hL.1
  obtain ⟨hR0, hR2, hR6, hRr, hRr1, hRk, hRw⟩ := id i1
  have hT8 : isT 8 := Or.inr (Or.inl rfl)
  have hlo := m1.lo
  unfold i32r at hi
  obtain ⟨hg0, hg1⟩ := hg
  refine G_il1 hC dX9_isGuest_0 ?_
  refine G_if_lt (tgt := 19) hC dX9_isGuest_1 (by decide) (by omega) (fun c1 => ?_) (fun c1 => ?_)
  · exact absurd c1 (by omega)
  · refine G_il1 hC dX9_isGuest_4 ?_
    refine G_al0 hC dX9_isGuest_5 ?_
    refine G_getR hC fl_X9_29 (by first | assumption | rfl) (by omega) (by first | assumption | exact hGr _ _ _ rfl) dX9_isGuest_6 ?_
    refine G_getI hC fl_X9_118 (by first | assumption | rfl) (by omega) dX9_isGuest_9 ?_
    rw [hR0]
    refine G_icmp_ge (tgt := 19) hC dX9_isGuest_12 (by decide) (by omega) (by omega) (fun c12 => ?_) (fun c12 => ?_)
    · exact absurd c12 (by omega)
    · refine G_iconst hC dX9_isGuest_15 ?_
      refine G_goto (tgt := 20) hC dX9_isGuest_16 (by decide) ?_
      exact G_zret hC hQ dX9_isGuest_20 (by omega) ⟨_, rfl, rfl, rfl, rfl⟩
set_option maxHeartbeats 4000000 in
set_option maxRecDepth 100000 in
theorem c_X9_isGuest0 {l : Launch} {c : Nat} {S : AS} {i : Int} {M : Mem} {P : PMem} (hI : CIv c M P S) (hi : i32r i) (hg : ¬ isG S i) : CtI l yX9_isGuest cX9_isGuest 2 (some .boolean) 0 0 45 [vR 0, vI i] M P (pI 0 M P) := by
  refine Ct_of (own := RX9) (L := [vR 0, vI i]) (by decide) rfl rfl (Nat.le_of_ble_eq_true rfl) (fun X Y hl hC hQ => ?_)
  obtain ⟨⟨hGr, wa, wb, hw, hwa, hwb⟩, hS, hA, hT, hF, N, lq, hL⟩ := id hI
  obtain ⟨s1, ⟨s2, s3, s4, s5, s6, s7, s8⟩, ⟨s9, s10, s11, s12⟩, s13, s14, s15, s16, s17, s18⟩ := id hS
  obtain ⟨m1, m2, m3, m4⟩ := id s14
  obtain ⟨f1, f2, f3, f4⟩ := id hF
  obtain ⟨t1, t2, t3, t4, t5⟩ := id hT
  obtain ⟨i1, i2, i3, i4⟩ := id hL.1
  obtain ⟨hR0, hR2, hR6, hRr, hRr1, hRk, hRw⟩ := id i1
  have hT8 : isT 8 := Or.inr (Or.inl rfl)
  have hlo := m1.lo
  unfold i32r at hi
  refine G_il1 hC dX9_isGuest_0 ?_
  refine G_if_lt (tgt := 19) hC dX9_isGuest_1 (by decide) (by omega) (fun c1 => ?_) (fun c1 => ?_)
  · refine G_iconst hC dX9_isGuest_19 ?_
    exact G_zret hC hQ dX9_isGuest_20 (by omega) ⟨_, rfl, rfl, rfl, rfl⟩
  · refine G_il1 hC dX9_isGuest_4 ?_
    refine G_al0 hC dX9_isGuest_5 ?_
    refine G_getR hC fl_X9_29 (by first | assumption | rfl) (by omega) (by first | assumption | exact hGr _ _ _ rfl) dX9_isGuest_6 ?_
    refine G_getI hC fl_X9_118 (by first | assumption | rfl) (by omega) dX9_isGuest_9 ?_
    rw [hR0]
    refine G_icmp_ge (tgt := 19) hC dX9_isGuest_12 (by decide) (by omega) (by omega) (fun c12 => ?_) (fun c12 => ?_)
    · refine G_iconst hC dX9_isGuest_19 ?_
      exact G_zret hC hQ dX9_isGuest_20 (by omega) ⟨_, rfl, rfl, rfl, rfl⟩
    · exact absurd ⟨by omega, by omega⟩ hg
set_option maxHeartbeats 4000000 in
set_option maxRecDepth 100000 in
theorem c_X9_isDish1 {l : Launch} {c : Nat} {S : AS} {i : Int} {M : Mem} {P : PMem} (hI : CIv c M P S) (hi : i32r i) (hg : isD S i) : CtI l yX9_isDish cX9_isDish 2 (some .boolean) 0 0 45 [vR 0, vI i] M P (pI 1 M P) := by
  refine Ct_of (own := RX9) (L := [vR 0, vI i]) (by decide) rfl rfl (Nat.le_of_ble_eq_true rfl) (fun X Y hl hC hQ => ?_)
  obtain ⟨⟨hGr, wa, wb, hw, hwa, hwb⟩, hS, hA, hT, hF, N, lq, hL⟩ := id hI
  obtain ⟨s1, ⟨s2, s3, s4, s5, s6, s7, s8⟩, ⟨s9, s10, s11, s12⟩, s13, s14, s15, s16, s17, s18⟩ := id hS
  obtain ⟨m1, m2, m3, m4⟩ := id s14
  obtain ⟨f1, f2, f3, f4⟩ := id hF
  obtain ⟨t1, t2, t3, t4, t5⟩ := id hT
  obtain ⟨i1, i2, i3, i4⟩ := id hL.1
  obtain ⟨hR0, hR2, hR6, hRr, hRr1, hRk, hRw⟩ := id i1
  have hT8 : isT 8 := Or.inr (Or.inl rfl)
  have hlo := m1.lo
  unfold i32r at hi
  obtain ⟨hg0, hg1⟩ := hg
  refine G_il1 hC dX9_isDish_0 ?_
  refine G_if_lt (tgt := 19) hC dX9_isDish_1 (by decide) (by omega) (fun c1 => ?_) (fun c1 => ?_)
  · exact absurd c1 (by omega)
  · refine G_il1 hC dX9_isDish_4 ?_
    refine G_al0 hC dX9_isDish_5 ?_
    refine G_getR hC fl_X9_29 (by first | assumption | rfl) (by omega) (by first | assumption | exact hGr _ _ _ rfl) dX9_isDish_6 ?_
    refine G_getI hC fl_X9_271 (by first | assumption | rfl) (by omega) dX9_isDish_9 ?_
    rw [t2]
    refine G_icmp_ge (tgt := 19) hC dX9_isDish_12 (by decide) (by omega) (by omega) (fun c12 => ?_) (fun c12 => ?_)
    · exact absurd c12 (by omega)
    · refine G_iconst hC dX9_isDish_15 ?_
      refine G_goto (tgt := 20) hC dX9_isDish_16 (by decide) ?_
      exact G_zret hC hQ dX9_isDish_20 (by omega) ⟨_, rfl, rfl, rfl, rfl⟩
set_option maxHeartbeats 4000000 in
set_option maxRecDepth 100000 in
theorem c_X9_isDish0 {l : Launch} {c : Nat} {S : AS} {i : Int} {M : Mem} {P : PMem} (hI : CIv c M P S) (hi : i32r i) (hg : ¬ isD S i) : CtI l yX9_isDish cX9_isDish 2 (some .boolean) 0 0 45 [vR 0, vI i] M P (pI 0 M P) := by
  refine Ct_of (own := RX9) (L := [vR 0, vI i]) (by decide) rfl rfl (Nat.le_of_ble_eq_true rfl) (fun X Y hl hC hQ => ?_)
  obtain ⟨⟨hGr, wa, wb, hw, hwa, hwb⟩, hS, hA, hT, hF, N, lq, hL⟩ := id hI
  obtain ⟨s1, ⟨s2, s3, s4, s5, s6, s7, s8⟩, ⟨s9, s10, s11, s12⟩, s13, s14, s15, s16, s17, s18⟩ := id hS
  obtain ⟨m1, m2, m3, m4⟩ := id s14
  obtain ⟨f1, f2, f3, f4⟩ := id hF
  obtain ⟨t1, t2, t3, t4, t5⟩ := id hT
  obtain ⟨i1, i2, i3, i4⟩ := id hL.1
  obtain ⟨hR0, hR2, hR6, hRr, hRr1, hRk, hRw⟩ := id i1
  have hT8 : isT 8 := Or.inr (Or.inl rfl)
  have hlo := m1.lo
  unfold i32r at hi
  refine G_il1 hC dX9_isDish_0 ?_
  refine G_if_lt (tgt := 19) hC dX9_isDish_1 (by decide) (by omega) (fun c1 => ?_) (fun c1 => ?_)
  · refine G_iconst hC dX9_isDish_19 ?_
    exact G_zret hC hQ dX9_isDish_20 (by omega) ⟨_, rfl, rfl, rfl, rfl⟩
  · refine G_il1 hC dX9_isDish_4 ?_
    refine G_al0 hC dX9_isDish_5 ?_
    refine G_getR hC fl_X9_29 (by first | assumption | rfl) (by omega) (by first | assumption | exact hGr _ _ _ rfl) dX9_isDish_6 ?_
    refine G_getI hC fl_X9_271 (by first | assumption | rfl) (by omega) dX9_isDish_9 ?_
    rw [t2]
    refine G_icmp_ge (tgt := 19) hC dX9_isDish_12 (by decide) (by omega) (by omega) (fun c12 => ?_) (fun c12 => ?_)
    · refine G_iconst hC dX9_isDish_19 ?_
      exact G_zret hC hQ dX9_isDish_20 (by omega) ⟨_, rfl, rfl, rfl, rfl⟩
    · exact absurd ⟨by omega, by omega⟩ hg
set_option maxHeartbeats 4000000 in
set_option maxRecDepth 100000 in
theorem c_X9_dishOrNone {l : Launch} {g : Nat} {f : Nat → Nat} {M : Mem} {P : PMem} (hGr : Gr P) (hf : lo8 f) (he : M 36 0 = (enc f : Int)) (hg : g < 6) : CtI l yX9_dishOrNone cX9_dishOrNone 3 (some .int) 1 21 45 [vR 0, vI g] M P (pI (dnF f g) M P) := by
  refine Ct_of (own := RX9) (L := [vR 0, vI g, vX 1]) (by decide) rfl rfl (Nat.le_of_ble_eq_true rfl) (fun X Y hl hC hQ => ?_)
  have hg8 := hf g
  refine G_al0 hC dX9_dishOrNone_0 ?_
  refine G_getR hC fl_X9_76 (by first | assumption | rfl) (by omega) (by first | assumption | exact hGr _ _ _ rfl) dX9_dishOrNone_1 ?_
  refine G_getI hC fl_X9_137 (by first | assumption | rfl) (by omega) dX9_dishOrNone_4 ?_
  rw [he]
  refine G_il1 hC dX9_dishOrNone_7 ?_
  refine G_callSI hC (c_X9_before hf hg) ms_X9_280 (by decide) rfl (by decide) dX9_dishOrNone_8 rfl (Nat.le_of_ble_eq_true rfl) rfl (fun z8 M8 P8 h8 => ?_)
  obtain ⟨rfl, rfl, rfl⟩ := h8
  refine G_is2 hC dX9_dishOrNone_11 rfl ?_
  refine G_il2 hC dX9_dishOrNone_12 ?_
  refine G_bipush hC dX9_dishOrNone_13 (by decide) ?_
  refine G_icmp_ne (tgt := 23) hC dX9_dishOrNone_15 (by decide) (by omega) (by omega) (fun c15 => ?_) (fun c15 => ?_)
  · refine G_il2 hC dX9_dishOrNone_23 ?_
    exact G_iret hC hQ dX9_dishOrNone_24 ⟨_, rfl, by
  unfold dnF
  first
    | (rw [if_pos (by omega)]; done)
    | (rw [if_neg (by omega)]; done), rfl, rfl⟩
  · refine G_bipush hC dX9_dishOrNone_18 (by decide) ?_
    refine G_goto (tgt := 24) hC dX9_dishOrNone_20 (by decide) ?_
    exact G_iret hC hQ dX9_dishOrNone_24 ⟨_, rfl, by
  unfold dnF
  first
    | (rw [if_pos (by omega)]; done)
    | (rw [if_neg (by omega)]; done), rfl, rfl⟩
