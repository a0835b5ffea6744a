/-! the table as it might be -/
def holdT (T : TB) (g : Nat) : TB := (tn T, tr T, ud (tk T) g 2, tw T)
def seatT (T : TB) (i j : Nat) : TB := (tn T, tr T, sw (tk T) i j, fun g => tw T (if g = i then j else if g = j then i else g))
theorem beM_at {M : Mem} {t o : Nat} (hto : o + 3 < t ∨ t + 3 < o) : (∀ b, b < 6 → beM M t o 6 t b = M o b) ∧ (∀ b, b < 6 → beM M t o 6 (t + 1) b = M (o + 1) b) ∧ (∀ b, b < 6 → beM M t o 6 (t + 2) b = M (o + 2) b) ∧ (∀ b, b < 36 → beM M t o 6 (t + 3) b = M (o + 3) b) ∧ (∀ a, a ≠ t → a ≠ t + 1 → a ≠ t + 2 → a ≠ t + 3 → ∀ b, beM M t o 6 a b = M a b) := by
  unfold beM
  refine ⟨fun b hb => ?_, fun b hb => ?_, fun b hb => ?_, fun b hb => ?_, fun a h0 h1 h2 h3 b => ?_⟩
  · rw [if_pos ⟨rfl, hb⟩]
  · rw [if_neg (by omega), if_pos ⟨rfl, hb⟩]
  · rw [if_neg (by omega), if_neg (by omega), if_pos ⟨rfl, hb⟩]
  · rw [if_neg (by omega), if_neg (by omega), if_neg (by omega), if_pos ⟨rfl, by omega⟩]
  · rw [if_neg (by omega), if_neg (by omega), if_neg (by omega), if_neg (by omega)]
theorem hold_R {M : Mem} {T : TB} {W : Nat → Nat} {g : Nat} (h : TabR M 8 T) (hW : TabW M 8 W) : TabR (upM (beM M 26 8 6) 27 g 2) 26 (holdT T g) ∧ TabW (upM (beM M 26 8 6) 27 g 2) 26 W ∧ upM (beM M 26 8 6) 27 g 2 26 5 = M 8 5 := by
  obtain ⟨a1, a2, a3, a4, a5, a6, a7⟩ := h
  obtain ⟨b0, b1, b2, b3, b4⟩ := beM_at (M := M) (t := 26) (o := 8) (by omega)
  refine ⟨⟨?_, a2, a3, ?_, a5, fun k hk => ?_, fun k d hk hd => ?_⟩, fun k hk => ?_, ?_⟩
  · rw [upM_ne (by decide), b0 0 (by omega)]; exact a1
  · rw [upM_ne (by decide), b0 2 (by omega)]; exact a4
  · show upM (beM M 26 8 6) 27 g 2 27 k = ((ud (tk T) g 2 k : Nat) : Int) ∧ ud (tk T) g 2 k ≤ 3
    simp only [upM, ud]
    by_cases e : k = g
    · rw [if_pos ⟨trivial, e⟩, if_pos e]; omega
    · rw [if_neg (fun q => e q.2), if_neg e, b1 k hk]; exact a6 k hk
  · show upM (beM M 26 8 6) 27 g 2 29 (6 * k + d) = _ ∧ _
    rw [upM_ne (by decide), b3 (6 * k + d) (by omega)]; exact a7 k d hk hd
  · show upM (beM M 26 8 6) 27 g 2 28 k = _ ∧ _
    rw [upM_ne (by decide), b2 k hk]; exact hW k hk
  · rw [upM_ne (by decide), b0 5 (by omega)]
def seM2 (M : Mem) (i j : Nat) : Mem := tgM (tgM (beM M 26 8 6) 26 i 8 j 6) 26 j 8 i 6
theorem seat_R {M : Mem} {T : TB} {W : Nat → Nat} {i j : Nat} (hi : i < 6) (hj : j < 6) (hij : i ≠ j) (h : TabR M 8 T) (hW : TabW M 8 W) : TabR (seM2 M i j) 26 (seatT T i j) ∧ TabW (seM2 M i j) 26 (sw W i j) ∧ seM2 M i j 26 5 = M 8 5 ∧ (∀ a, a ≠ 26 → a ≠ 27 → a ≠ 28 → a ≠ 29 → ∀ b, seM2 M i j a b = M a b) := by
  obtain ⟨a1, a2, a3, a4, a5, a6, a7⟩ := h
  obtain ⟨b0, b1, b2, b3, b4⟩ := beM_at (M := M) (t := 26) (o := 8) (by omega)
  have c0 : ∀ b, b < 6 → seM2 M i j 26 b = M 8 b := fun b hb => by
    unfold seM2 tgM
    rw [if_neg (by omega), if_neg (by omega), if_neg (by omega), if_neg (by omega), if_neg (by omega), if_neg (by omega)]
    exact b0 b hb
  have co : ∀ a, a ≠ 26 → a ≠ 27 → a ≠ 28 → a ≠ 29 → ∀ b, seM2 M i j a b = M a b := fun a h0 h1 h2 h3 b => by
    unfold seM2 tgM
    rw [if_neg (by omega), if_neg (by omega), if_neg (by omega), if_neg (by omega), if_neg (by omega), if_neg (by omega)]
    exact b4 a h0 h1 h2 h3 b
  have k1 : ∀ k, k < 6 → seM2 M i j 27 k = M 9 (if k = i then j else if k = j then i else k) := fun k hk => by
    unfold seM2 tgM
    by_cases e2 : k = j
    · rw [if_pos ⟨rfl, e2⟩, if_neg (by omega), if_neg (by omega), if_neg (by omega), if_neg (by omega), if_pos e2]
      exact b4 9 (by omega) (by omega) (by omega) (by omega) i
    · rw [if_neg (by omega), if_neg (by omega), if_neg (by omega)]
      by_cases e1 : k = i
      · rw [if_pos ⟨rfl, e1⟩, if_pos e1]
        exact b4 9 (by omega) (by omega) (by omega) (by omega) j
      · rw [if_neg (by omega), if_neg (by omega), if_neg (by omega), if_neg e1, if_neg e2]
        exact b1 k hk
  have k2 : ∀ k, k < 6 → seM2 M i j 28 k = M 10 (if k = i then j else if k = j then i else k) := fun k hk => by
    unfold seM2 tgM
    by_cases e2 : k = j
    · rw [if_neg (by omega), if_pos ⟨rfl, e2⟩, if_neg (by omega), if_neg (by omega), if_neg (by omega), if_neg (by omega), if_pos e2]
      exact b4 10 (by omega) (by omega) (by omega) (by omega) i
    · rw [if_neg (by omega), if_neg (by omega), if_neg (by omega)]
      by_cases e1 : k = i
      · rw [if_neg (by omega), if_pos ⟨rfl, e1⟩, if_pos e1]
        exact b4 10 (by omega) (by omega) (by omega) (by omega) j
      · rw [if_neg (by omega), if_neg (by omega), if_neg (by omega), if_neg e1, if_neg e2]
        exact b2 k hk
  have k3 : ∀ k d, k < 6 → d < 6 → seM2 M i j 29 (6 * k + d) = M 11 (6 * (if k = i then j else if k = j then i else k) + d) := fun k d hk hd => by
    unfold seM2 tgM
    by_cases e2 : k = j
    · rw [if_neg (by omega), if_neg (by omega), if_pos ⟨rfl, by omega, by omega⟩, if_neg (by omega), if_neg (by omega), if_neg (by omega), if_neg (by omega), if_pos e2, b4 (8 + 3) (by omega) (by omega) (by omega) (by omega)]
      show M 11 _ = M 11 _
      congr 1; omega
    · rw [if_neg (by omega), if_neg (by omega), if_neg (by omega)]
      by_cases e1 : k = i
      · rw [if_neg (by omega), if_neg (by omega), if_pos ⟨rfl, by omega, by omega⟩, if_pos e1, b4 (8 + 3) (by omega) (by omega) (by omega) (by omega)]
        show M 11 _ = M 11 _
        congr 1; omega
      · rw [if_neg (by omega), if_neg (by omega), if_neg (by omega), if_neg e1, if_neg e2]
        exact b3 (6 * k + d) (by omega)
  have hx : ∀ k, k < 6 → (if k = i then j else if k = j then i else k) < 6 := fun k hk => by split <;> (try split) <;> omega
  have hsw : ∀ (f : Nat → Nat) k, sw f i j k = f (if k = i then j else if k = j then i else k) := fun f k => by
    simp only [sw, ud]
    by_cases e2 : k = j
    · rw [if_pos e2, if_neg (by omega), if_pos e2]
    · rw [if_neg e2]
      by_cases e1 : k = i
      · rw [if_pos e1, if_pos e1]
      · rw [if_neg e1, if_neg e1, if_neg e2]
  refine ⟨⟨by rw [c0 0 (by omega)]; exact a1, a2, a3, by rw [c0 2 (by omega)]; exact a4, a5, fun k hk => ?_, fun k d hk hd => ?_⟩, fun k hk => ?_, c0 5 (by omega), co⟩
  · show seM2 M i j 27 k = ((sw (tk T) i j k : Nat) : Int) ∧ sw (tk T) i j k ≤ 3
    rw [k1 k hk, hsw]; exact a6 _ (hx k hk)
  · show seM2 M i j 29 (6 * k + d) = _ ∧ _
    rw [k3 k d hk hd]; exact a7 _ d (hx k hk) hd
  · show seM2 M i j 28 k = _ ∧ _
    rw [k2 k hk, hsw]; exact hW _ (hx k hk)
theorem isSe17 : isSe 17 15 8 18 4320 := Or.inl ⟨rfl, rfl, rfl, rfl, rfl⟩
theorem isSe30 : isSe 30 31 26 33 0 := Or.inr ⟨rfl, rfl, rfl, rfl, rfl⟩
theorem isT26 : isT 26 := Or.inr (Or.inr rfl)
set_option maxHeartbeats 4000000 in
set_option maxRecDepth 100000 in
theorem c_X8_startOther {l : Launch} {l0 : Nat} {M : Mem} {P : PMem} (hGr : Gr P) (hl0 : M 17 1 = (l0 : Int)) (hl7 : l0 < 720) : CtV l yX8_startOther cX8_startOther 1 none 3 66 45 [vR 25] M P (pV (stM (foM M 30) 30 33 l0) P) := by
  refine Ct_of (own := RX8) (L := [vR 25]) (by decide) rfl rfl (Nat.le_of_ble_eq_true rfl) (fun X Y hl hC hQ => ?_)
  refine G_al0 hC dX8_startOther_0 ?_
  refine G_getR hC fl_X8_50 (by first | assumption | rfl) (by omega) (by first | assumption | exact hGr _ _ _ rfl) dX8_startOther_1 ?_
  refine G_callVV hC (c_X5_forget hGr isSe30) mv_X8_127 (by first | assumption | rfl) (by omega) (by decide) rfl (by decide) dX8_startOther_4 rfl (Nat.le_of_ble_eq_true rfl) rfl (fun M4 P4 h4 => ?_)
  obtain ⟨rfl, rfl⟩ := h4
  refine G_al0 hC dX8_startOther_7 ?_
  refine G_getR hC fl_X8_50 (by first | assumption | rfl) (by omega) (by first | assumption | exact hGr _ _ _ rfl) dX8_startOther_8 ?_
  refine G_al0 hC dX8_startOther_11 ?_
  refine G_getR hC fl_X8_22 (by first | assumption | rfl) (by omega) (by first | assumption | exact hGr _ _ _ rfl) dX8_startOther_12 ?_
  refine G_getI hC fl_X8_53 (by first | assumption | rfl) (by omega) dX8_startOther_15 ?_
  rw [show foM M 30 17 1 = (l0 : Int) by unfold foM; rw [upM_ne (by decide), upM_ne (by decide), upM_ne (by decide)]; exact hl0]
  refine G_callVV hC (c_X5_startNew hGr isSe30 (by omega) (by unfold foM; rw [upM_nej (by decide), upM_nej (by decide), upM_self]; omega) (by unfold foM; rw [upM_nej (by decide), upM_nej (by decide), upM_self]; omega)) mv_X8_130 (by first | assumption | rfl) (by omega) (by decide) rfl (by decide) dX8_startOther_18 rfl (Nat.le_of_ble_eq_true rfl) rfl (fun M18 P18 h18 => ?_)
  obtain ⟨rfl, rfl⟩ := h18
  exact G_vret hC hQ dX8_startOther_21 ⟨rfl, rfl, rfl⟩
set_option maxHeartbeats 4000000 in
set_option maxRecDepth 100000 in
theorem c_X8_makeHold {l : Launch} {l0 g : Nat} {M : Mem} {P : PMem} (hGr : Gr P) (hl0 : M 17 1 = (l0 : Int)) (hl7 : l0 < 720) (hg : g < 6) : CtV l yX8_makeHold cX8_makeHold 2 none 4 91 45 [vR 25, vI g] M P (pV (stM (foM (upM (beM M 26 8 6) 27 g 2) 30) 30 33 l0) P) := by
  refine Ct_of (own := RX8) (L := [vR 25, vI g]) (by decide) rfl rfl (Nat.le_of_ble_eq_true rfl) (fun X Y hl hC hQ => ?_)
  refine G_al0 hC dX8_makeHold_0 ?_
  refine G_getR hC fl_X8_29 (by first | assumption | rfl) (by omega) (by first | assumption | exact hGr _ _ _ rfl) dX8_makeHold_1 ?_
  refine G_al0 hC dX8_makeHold_4 ?_
  refine G_getR hC fl_X8_18 (by first | assumption | rfl) (by omega) (by first | assumption | exact hGr _ _ _ rfl) dX8_makeHold_5 ?_
  refine G_callVV hC (c_X7_become hGr isT26 isT8 (by omega)) mv_X8_113 (by first | assumption | rfl) (by omega) (by decide) rfl (by decide) dX8_makeHold_8 rfl (Nat.le_of_ble_eq_true rfl) rfl (fun M8 P8 h8 => ?_)
  obtain ⟨rfl, rfl⟩ := h8
  refine G_al0 hC dX8_makeHold_11 ?_
  refine G_getR hC fl_X8_29 (by first | assumption | rfl) (by omega) (by first | assumption | exact hGr _ _ _ rfl) dX8_makeHold_12 ?_
  refine G_il1 hC dX8_makeHold_15 ?_
  refine G_iconst hC dX8_makeHold_16 ?_
  refine G_callVV hC (c_X7_setKind hGr isT26 hg) mv_X8_117 (by first | assumption | rfl) (by omega) (by decide) rfl (by decide) dX8_makeHold_17 rfl (Nat.le_of_ble_eq_true rfl) rfl (fun M17 P17 h17 => ?_)
  obtain ⟨rfl, rfl⟩ := h17
  refine G_al0 hC dX8_makeHold_20 ?_
  refine G_callVV hC (c_X8_startOther (l0 := l0) hGr (by rw [upM_ne (by decide), (beM_at (M := M) (t := 26) (o := 8) (by omega)).2.2.2.2 17 (by decide) (by decide) (by decide) (by decide)]; exact hl0) hl7) mv_X8_120 (by first | assumption | rfl) (by omega) (by decide) rfl (by decide) dX8_makeHold_21 rfl (Nat.le_of_ble_eq_true rfl) rfl (fun M21 P21 h21 => ?_)
  obtain ⟨rfl, rfl⟩ := h21
  exact G_vret hC hQ dX8_makeHold_24 ⟨rfl, rfl, rfl⟩
set_option maxHeartbeats 4000000 in
set_option maxRecDepth 100000 in
theorem c_X8_changeSeats {l : Launch} {l0 i j : Nat} {M : Mem} {P : PMem} (hGr : Gr P) (hl0 : M 17 1 = (l0 : Int)) (hl7 : l0 < 720) (hi : i < 6) (hj : j < 6) : CtV l yX8_changeSeats cX8_changeSeats 3 none 4 91 45 [vR 25, vI i, vI j] M P (pV (stM (foM (seM2 M i j) 30) 30 33 l0) P) := by
  refine Ct_of (own := RX8) (L := [vR 25, vI i, vI j]) (by decide) rfl rfl (Nat.le_of_ble_eq_true rfl) (fun X Y hl hC hQ => ?_)
  refine G_al0 hC dX8_changeSeats_0 ?_
  refine G_getR hC fl_X8_29 (by first | assumption | rfl) (by omega) (by first | assumption | exact hGr _ _ _ rfl) dX8_changeSeats_1 ?_
  refine G_al0 hC dX8_changeSeats_4 ?_
  refine G_getR hC fl_X8_18 (by first | assumption | rfl) (by omega) (by first | assumption | exact hGr _ _ _ rfl) dX8_changeSeats_5 ?_
  refine G_callVV hC (c_X7_become hGr isT26 isT8 (by omega)) mv_X8_113 (by first | assumption | rfl) (by omega) (by decide) rfl (by decide) dX8_changeSeats_8 rfl (Nat.le_of_ble_eq_true rfl) rfl (fun M8 P8 h8 => ?_)
  obtain ⟨rfl, rfl⟩ := h8
  refine G_al0 hC dX8_changeSeats_11 ?_
  refine G_getR hC fl_X8_29 (by first | assumption | rfl) (by omega) (by first | assumption | exact hGr _ _ _ rfl) dX8_changeSeats_12 ?_
  refine G_il1 hC dX8_changeSeats_15 ?_
  refine G_al0 hC dX8_changeSeats_16 ?_
  refine G_getR hC fl_X8_18 (by first | assumption | rfl) (by omega) (by first | assumption | exact hGr _ _ _ rfl) dX8_changeSeats_17 ?_
  refine G_il2 hC dX8_changeSeats_20 ?_
  refine G_callVV hC (c_X7_takeGuest hGr isT26 isT8 (by omega) hi hj) mv_X8_123 (by first | assumption | rfl) (by omega) (by decide) rfl (by decide) dX8_changeSeats_21 rfl (Nat.le_of_ble_eq_true rfl) rfl (fun M21 P21 h21 => ?_)
  obtain ⟨rfl, rfl⟩ := h21
  refine G_al0 hC dX8_changeSeats_24 ?_
  refine G_getR hC fl_X8_29 (by first | assumption | rfl) (by omega) (by first | assumption | exact hGr _ _ _ rfl) dX8_changeSeats_25 ?_
  refine G_il2 hC dX8_changeSeats_28 ?_
  refine G_al0 hC dX8_changeSeats_29 ?_
  refine G_getR hC fl_X8_18 (by first | assumption | rfl) (by omega) (by first | assumption | exact hGr _ _ _ rfl) dX8_changeSeats_30 ?_
  refine G_il1 hC dX8_changeSeats_33 ?_
  refine G_callVV hC (c_X7_takeGuest hGr isT26 isT8 (by omega) hj hi) mv_X8_123 (by first | assumption | rfl) (by omega) (by decide) rfl (by decide) dX8_changeSeats_34 rfl (Nat.le_of_ble_eq_true rfl) rfl (fun M34 P34 h34 => ?_)
  obtain ⟨rfl, rfl⟩ := h34
  refine G_al0 hC dX8_changeSeats_37 ?_
  refine G_callVV hC (c_X8_startOther (l0 := l0) hGr (by show seM2 M i j 17 1 = _; unfold seM2 tgM; rw [if_neg (by omega), if_neg (by omega), if_neg (by omega), if_neg (by omega), if_neg (by omega), if_neg (by omega), (beM_at (M := M) (t := 26) (o := 8) (by omega)).2.2.2.2 17 (by decide) (by decide) (by decide) (by decide)]; exact hl0) hl7) mv_X8_120 (by first | assumption | rfl) (by omega) (by decide) rfl (by decide) dX8_changeSeats_38 rfl (Nat.le_of_ble_eq_true rfl) rfl (fun M38 P38 h38 => ?_)
  obtain ⟨rfl, rfl⟩ := h38
  exact G_vret hC hQ dX8_changeSeats_41 ⟨rfl, rfl, rfl⟩
noncomputable def crI (T : TB) (W : Nat → Nat) (N : Nat) (lq : Nat → Nat) : Int := by classical exact if ∃ l, l < N ∧ atR T W (dgf (lq l)) then 1 else 0
theorem crI_1 {T : TB} {W : Nat → Nat} {N : Nat} {lq : Nat → Nat} (h : ∃ l, l < N ∧ atR T W (dgf (lq l))) : crI T W N lq = 1 := by unfold crI; rw [if_pos h]
theorem crI_0 {T : TB} {W : Nat → Nat} {N : Nat} {lq : Nat → Nat} (h : ¬ ∃ l, l < N ∧ atR T W (dgf (lq l))) : crI T W N lq = 0 := by unfold crI; rw [if_neg h]
set_option maxHeartbeats 4000000 in
set_option maxRecDepth 100000 in
theorem c_X8_canBeAtRest {l : Launch} {N : Nat} {T : TB} {W lq : Nat → Nat} {M : Mem} {P : PMem} (hGr : Gr P) (hR : TabR M 8 T) (hW : TabW M 8 W) (hI : LyI M N lq) : CtI l yX8_canBeAtRest cX8_canBeAtRest 3 (some .boolean) 3 64 45 [vR 25] M P (pI (crI T W N lq) M P) := by
  refine Ct_of (own := RX8) (L := [vR 25, vX 1, vX 1]) (by decide) rfl rfl (Nat.le_of_ble_eq_true rfl) (fun X Y hl hC hQ => ?_)
  have hN7 := hI.2.2.1
  have hsz := hI.2.1
  have hlp : ∀ (c l : Nat) (lv : Int), l + c = N → lv = (l : Int) → (∀ l', l' < l → ¬ atR T W (dgf (lq l'))) → G X Y 13 [vR 25, vR 12, vI lv] [] M P := by
    intro c
    induction c with
    | zero =>
      intro l lv hl e1 hn
      subst e1
      refine G_il2 hC dX8_canBeAtRest_13 ?_
      refine G_al1 hC dX8_canBeAtRest_14 ?_
      refine G_getI hC fl_X8_101 (by first | assumption | rfl) (by omega) dX8_canBeAtRest_15 ?_
      refine G_icmp_ge (tgt := 44) hC dX8_canBeAtRest_18 (by decide) (by omega) (by omega) (fun c18 => ?_) (fun c18 => ?_)
      · refine G_iconst hC dX8_canBeAtRest_44 ?_
        exact G_zret hC hQ dX8_canBeAtRest_45 (by omega) ⟨_, rfl, crI_0 (fun q => by obtain ⟨z, z1, z2⟩ := q; exact hn z (by omega) z2), rfl, rfl⟩
      · exact absurd c18 (by omega)
    | succ c ih =>
      intro l lv hl e1 hn
      subst e1
      have hM13 : M 13 l = ((enc (dgf (lq l)) : Nat) : Int) := by rw [(hI.2.2.2.1 l (by omega)).1, enc_dgf (hI.lt (by omega))]
      by_cases hat : atR T W (dgf (lq l))
      · have hai := atI_1 hat
        refine G_il2 hC dX8_canBeAtRest_13 ?_
        refine G_al1 hC dX8_canBeAtRest_14 ?_
        refine G_getI hC fl_X8_101 (by first | assumption | rfl) (by omega) dX8_canBeAtRest_15 ?_
        refine G_icmp_ge (tgt := 44) hC dX8_canBeAtRest_18 (by decide) (by omega) (by omega) (fun c18 => ?_) (fun c18 => ?_)
        · exact absurd c18 (by omega)
        · refine G_al0 hC dX8_canBeAtRest_21 ?_
          refine G_getR hC fl_X8_18 (by first | assumption | rfl) (by omega) (by first | assumption | exact hGr _ _ _ rfl) dX8_canBeAtRest_22 ?_
          refine G_al1 hC dX8_canBeAtRest_25 ?_
          refine G_il2 hC dX8_canBeAtRest_26 ?_
          refine G_callVI hC (c_X0_lieOf hGr (by omega)) mv_X8_106 (by first | assumption | rfl) (by omega) (by decide) rfl (by decide) dX8_canBeAtRest_27 rfl (Nat.le_of_ble_eq_true rfl) rfl (fun z27 M27 P27 h27 => ?_)
          obtain ⟨rfl, rfl, rfl⟩ := h27
          rw [hM13]
          refine G_callVI hC (c_X7_isAtRest hGr isT8 hR hW (dgf_lo _)) mv_X8_109 (by first | assumption | rfl) (by omega) (by decide) rfl (by decide) dX8_canBeAtRest_30 rfl (Nat.le_of_ble_eq_true rfl) rfl (fun z30 M30 P30 h30 => ?_)
          obtain ⟨rfl, rfl, rfl⟩ := h30
          refine G_if_eq (tgt := 38) hC dX8_canBeAtRest_33 (by decide) (by rw [hai]; omega) (fun c33 => ?_) (fun c33 => ?_)
          · exact absurd c33 (by rw [hai]; omega)
          · refine G_iconst hC dX8_canBeAtRest_36 ?_
            exact G_zret hC hQ dX8_canBeAtRest_37 (by omega) ⟨_, rfl, crI_1 ⟨l, by omega, hat⟩, rfl, rfl⟩
      · have hai := atI_0 hat
        refine G_il2 hC dX8_canBeAtRest_13 ?_
        refine G_al1 hC dX8_canBeAtRest_14 ?_
        refine G_getI hC fl_X8_101 (by first | assumption | rfl) (by omega) dX8_canBeAtRest_15 ?_
        refine G_icmp_ge (tgt := 44) hC dX8_canBeAtRest_18 (by decide) (by omega) (by omega) (fun c18 => ?_) (fun c18 => ?_)
        · exact absurd c18 (by omega)
        · refine G_al0 hC dX8_canBeAtRest_21 ?_
          refine G_getR hC fl_X8_18 (by first | assumption | rfl) (by omega) (by first | assumption | exact hGr _ _ _ rfl) dX8_canBeAtRest_22 ?_
          refine G_al1 hC dX8_canBeAtRest_25 ?_
          refine G_il2 hC dX8_canBeAtRest_26 ?_
          refine G_callVI hC (c_X0_lieOf hGr (by omega)) mv_X8_106 (by first | assumption | rfl) (by omega) (by decide) rfl (by decide) dX8_canBeAtRest_27 rfl (Nat.le_of_ble_eq_true rfl) rfl (fun z27 M27 P27 h27 => ?_)
          obtain ⟨rfl, rfl, rfl⟩ := h27
          rw [hM13]
          refine G_callVI hC (c_X7_isAtRest hGr isT8 hR hW (dgf_lo _)) mv_X8_109 (by first | assumption | rfl) (by omega) (by decide) rfl (by decide) dX8_canBeAtRest_30 rfl (Nat.le_of_ble_eq_true rfl) rfl (fun z30 M30 P30 h30 => ?_)
          obtain ⟨rfl, rfl, rfl⟩ := h30
          refine G_if_eq (tgt := 38) hC dX8_canBeAtRest_33 (by decide) (by rw [hai]; omega) (fun c33 => ?_) (fun c33 => ?_)
          · refine G_inc2 hC dX8_canBeAtRest_38 rfl ?_
            refine G_goto (tgt := 13) hC dX8_canBeAtRest_41 (by decide) ?_
            exact ih (l + 1) _ (by omega) (by omega) (fun l' hl' => by
              rcases Nat.lt_or_ge l' l with z | z
              · exact hn l' z
              · have : l' = l := by omega
                rw [this]; exact hat)
          · exact absurd hai c33
  refine G_al0 hC dX8_canBeAtRest_0 ?_
  refine G_getR hC fl_X8_22 (by first | assumption | rfl) (by omega) (by first | assumption | exact hGr _ _ _ rfl) dX8_canBeAtRest_1 ?_
  refine G_getR hC fl_X8_36 (by first | assumption | rfl) (by omega) (by first | assumption | exact hGr _ _ _ rfl) dX8_canBeAtRest_4 ?_
  refine G_getR hC fl_X8_40 (by first | assumption | rfl) (by omega) (by first | assumption | exact hGr _ _ _ rfl) dX8_canBeAtRest_7 ?_
  refine G_as1 hC dX8_canBeAtRest_10 rfl ?_
  refine G_iconst hC dX8_canBeAtRest_11 ?_
  refine G_is2 hC dX8_canBeAtRest_12 rfl ?_
  exact hlp N 0 _ (by omega) rfl (fun l' h => by omega)
set_option maxHeartbeats 4000000 in
set_option maxRecDepth 100000 in
theorem c_X8_forget {l : Launch}  {M : Mem} {P : PMem} (hGr : Gr P) : CtV l yX8_forget cX8_forget 1 none 0 0 45 [vR 25] M P (pV (upM (upM M 25 2 1023) 25 4 1023) P) := by
  refine Ct_of (own := RX8) (L := [vR 25]) (by decide) rfl rfl (Nat.le_of_ble_eq_true rfl) (fun X Y hl hC hQ => ?_)
  refine G_al0 hC dX8_forget_0 ?_
  refine G_sipush hC dX8_forget_1 (by decide) ?_
  refine G_putI hC fl_X8_9 (by first | assumption | rfl) (by omega) dX8_forget_4 ?_
  refine G_al0 hC dX8_forget_7 ?_
  refine G_sipush hC dX8_forget_8 (by decide) ?_
  refine G_putI hC fl_X8_15 (by first | assumption | rfl) (by omega) dX8_forget_11 ?_
  exact G_vret hC hQ dX8_forget_14 ⟨rfl, rfl, rfl⟩
/-! results, by where a search starts -/
abbrev st0 (q : Nat) : List BE × Nat := ([(q, 0, 0)], 0)
def isPR (T : TB) (q so z : Nat) : Prop := ∃ m k, z = metN so (bXn T m (st0 q)).1 k ∧ (∀ k', k' < k → ∃ x : BE, (bXn T m (st0 q)).1[k']? = some x) ∧ (k = 720 ∨ metN so (bXn T m (st0 q)).1 k = so ∨ (stopB k 1000000 (bXn T m (st0 q)).1 (bXn T m (st0 q)).2 ∧ ∀ e : BE, (bXn T m (st0 q)).1[k]? = some e → (1000000 : Int) ≤ (e.2.1 : Int)))
def isRS (T : TB) (W : Nat → Nat) (q : Nat) (lim r : Int) : Prop := ∃ m, (∃ k e, r = (e.2.1 : Int) ∧ (e.2.1 : Int) < lim ∧ FDp (fun x => atR T W (dgf x.1)) (bXn T m (st0 q)) k e) ∨ (r = -4 ∧ ∃ k, LKp (fun x => atR T W (dgf x.1)) lim (bXn T m (st0 q)) k)
/-- what is there when the other table is looked at -/
def WI (M : Mem) (T : TB) (W : Nat → Nat) (N : Nat) (lq : Nat → Nat) (l0 : Nat) : Prop := SI M 15 8 4320 T N lq ∧ TabW M 8 W ∧ (∀ T' : TB, tn T' = tn T → Clo T' N lq) ∧ (∀ l, l < N → lieOK (dgf (lq l))) ∧ l0 < N ∧ M 17 1 = (l0 : Int) ∧ ∃ m, SeB M 17 18 N lq (bXn T m (st0 (lq l0))).1 (bXn T m (st0 (lq l0))).2
def oth : Nat → Prop := fun a => a = 26 ∨ a = 27 ∨ a = 28 ∨ a = 29 ∨ a = 30 ∨ a = 32 ∨ a = 33 ∨ a = 34 ∨ a = 35
theorem WI_oth {M M' : Mem} {T : TB} {W : Nat → Nat} {N : Nat} {lq : Nat → Nat} {l0 : Nat} (h : WI M T W N lq l0) (he : eqx (fun a => oth a ∨ a = 25) M M') : WI M' T W N lq l0 := by
  obtain ⟨⟨a1, a2, a3, a4⟩, b, c, d, e, f, m, g⟩ := h
  have q : ∀ a, a < 25 → ∀ b, M' a b = M a b := fun a h => he a (fun z => by unfold oth at z; omega)
  exact ⟨⟨TabR_congr a1 (q 8 (by omega)) (q 9 (by omega)) (q 11 (by omega)), LyI_congr a2 (q 12 (by omega)) (q 13 (by omega)) (q 14 (by omega)), RwI_congr a3 (q 13 (by omega)) (q 14 (by omega)) (q 16 (by omega)), a4⟩, fun k hk => by rw [q 10 (by omega)]; exact b k hk, c, d, e, by rw [q 17 (by omega)]; exact f, m, SeB_congr g (q 17 (by omega)) (q 18 (by omega)) (q 19 (by omega)) (q 20 (by omega))⟩
/-- the other table, made, and its search, started -/
theorem other_go {M M2 : Mem} {T T' : TB} {W W' : Nat → Nat} {N : Nat} {lq : Nat → Nat} {l0 : Nat} (h : WI M T W N lq l0) (hn : tn T' = tn T) (hR : TabR M2 26 T') (hW : TabW M2 26 W') (he : eqx (fun a => a = 26 ∨ a = 27 ∨ a = 28 ∨ a = 29) M M2) : SI (stM (foM M2 30) 30 33 l0) 31 26 0 T' N lq ∧ SeB (stM (foM M2 30) 30 33 l0) 30 33 N lq [(lq l0, 0, 0)] 0 ∧ TabW (stM (foM M2 30) 30 33 l0) 26 W' ∧ eqx oth M (stM (foM M2 30) 30 33 l0) := by
  obtain ⟨⟨a1, a2, a3, a4⟩, b, c, d, e, f, m, g⟩ := h
  have hN := a2.2.2.1
  have h1 := stM_B (M := foM M2 30) (se := 30) (oo := 33) hN (by omega) (fun x y hx hy e => a2.inj hx hy e) e
  have hfo : eqx (fun a => a = 30) M2 (foM M2 30) := fun a ha b => by unfold foM; rw [upM_ne ha, upM_ne ha, upM_ne ha]
  have hall : eqx (seS 30 33) M2 (stM (foM M2 30) 30 33 l0) := (hfo.mono (fun a h => Or.inl h)).trans h1.2.2
  have q : ∀ a, a < 30 → ∀ b, stM (foM M2 30) 30 33 l0 a b = M2 a b := fun a h => hall a (fun z => by unfold seS at z; omega)
  have q2 : ∀ a, a < 26 → ∀ b, M2 a b = M a b := fun a h => he a (fun z => by omega)
  refine ⟨⟨TabR_congr hR (q 26 (by omega)) (q 27 (by omega)) (q 29 (by omega)), LyI_congr a2 (fun b => by rw [q 12 (by omega), q2 12 (by omega)]) (fun b => by rw [q 13 (by omega), q2 13 (by omega)]) (fun b => by rw [q 14 (by omega), q2 14 (by omega)]), fun k i _ _ hl => by omega, c T' hn⟩, h1.1, fun k hk => by rw [q 28 (by omega)]; exact hW k hk, fun a ha b => ?_⟩
  rw [hall a (fun z => ha (by unfold seS at z; unfold oth; omega)), he a (fun z => ha (by unfold oth; omega))]
theorem bAnd127 (a : Int) : 0 ≤ bAnd a 127 ∧ bAnd a 127 ≤ 127 := by
  unfold bAnd
  obtain ⟨n, hn⟩ : ∃ n : Nat, Int32.ofInt a = nI n := ⟨(Int32.ofInt a).toBitVec.toNat, by
    apply Int32.toBitVec_inj.1
    show _ = BitVec.ofNat 32 _
    rw [BitVec.ofNat_toNat]; simp⟩
  rw [hn, show Int32.ofInt 127 = nI 127 from by decide, nx_and', show (127 : Nat) = 2 ^ 7 - 1 by rfl, Nat.and_two_pow_sub_one_eq_mod, nI_toInt (by omega)]
  omega
def hoF (mn : Nat → Int) : Nat → Int × Int
  | 0 => (0, 0)
  | g + 1 => if (hoF mn g).2 < mn g then ((g : Int), mn g) else hoF mn g
theorem hoF_r (mn : Nat → Int) (h : ∀ g, 0 ≤ mn g ∧ mn g ≤ 127) : ∀ g, 0 ≤ (hoF mn g).2 ∧ (hoF mn g).2 ≤ 127
  | 0 => by simp [hoF]
  | g + 1 => by
    unfold hoF; split
    · exact h g
    · exact hoF_r mn h g
theorem hoF_congr {mn mn' : Nat → Int} : ∀ g, (∀ k, k < g → mn' k = mn k) → hoF mn' g = hoF mn g
  | 0, _ => rfl
  | g + 1, h => by unfold hoF; rw [hoF_congr g (fun k hk => h k (by omega)), h g (by omega)]
def mnF (hv : Nat) (ov : Nat → Nat) (g : Nat) : Int := bcZ ((hv ^^^ (hv &&& ov g) : Nat) : Int)
def fhX : Nat → Prop := fun a => seX 17 15 18 a ∨ oth a ∨ a = 25
/-- who holds up, worked out -/
def fhQ (M : Mem) (P : PMem) (T : TB) (W : Nat → Nat) (N : Nat) (lq : Nat → Nat) (l0 : Nat) : Mem → PMem → Prop := fun M' P' => P = P' ∧ WI M' T W N lq l0 ∧ eqx fhX M M' ∧ M' 25 2 = (l0 : Int) ∧ M' 25 3 = M 25 3 ∧ M' 25 4 = M 25 4 ∧ ∃ (hv : Nat) (ov : Nat → Nat), isPR T (lq l0) (encH (wnt T W)) hv ∧ (∀ g, g < tn T → isPR (holdT T g) (lq l0) hv (ov g)) ∧ M' 25 0 = (hoF (mnF hv ov) (tn T)).1 ∧ M' 25 1 = (hoF (mnF hv ov) (tn T)).2
theorem SI_25 {M M' : Mem} {N : Nat} {T : TB} {lq : Nat → Nat} (h : SI M 15 8 4320 T N lq) (he : eqx (fun a => 21 ≤ a) M M') : SI M' 15 8 4320 T N lq := by
  obtain ⟨a1, a2, a3, a4⟩ := h
  have q : ∀ a, a < 21 → ∀ b, M' a b = M a b := fun a h => he a (fun z => by omega)
  exact ⟨TabR_congr a1 (q 8 (by omega)) (q 9 (by omega)) (q 11 (by omega)), LyI_congr a2 (q 12 (by omega)) (q 13 (by omega)) (q 14 (by omega)), RwI_congr a3 (q 13 (by omega)) (q 14 (by omega)) (q 16 (by omega)), a4⟩
theorem wnt_lo {T : TB} {W : Nat → Nat} (h : ∀ g, g < 6 → W g < 64) (hn : tn T ≤ 6) : lo64 (wnt T W) := by
  intro i; unfold wnt; split
  · exact h i (by omega)
  · omega
set_option maxHeartbeats 4000000 in
set_option maxRecDepth 100000 in
theorem c_X8_findHolder {l : Launch} {N l0 : Nat} {T : TB} {W lq : Nat → Nat} {M : Mem} {P : PMem} (hGr : Gr P) (hWI : WI M T W N lq l0) (hne : ¬ M 25 2 = (l0 : Int)) (hrg : 0 ≤ M 25 2 ∧ M 25 2 ≤ 1023) : CtV l yX8_findHolder cX8_findHolder 5 none 6 164 45 [vR 25] M P (fhQ M P T W N lq l0) := by
  refine Ct_of (own := RX8) (L := [vR 25, vX 1, vX 1, vX 1, vX 1]) (by decide) rfl rfl (Nat.le_of_ble_eq_true rfl) (fun X Y hl hC hQ => ?_)
  obtain ⟨hS, hW, hClo, hLO, hl0, hst, m0, hB⟩ := id hWI
  have hR := hS.1
  obtain ⟨hR0, hR2, hR6, hRr, hRr1, hRk, hRw⟩ := id hR
  have hN7 := hS.2.1.2.2.1
  have hwl : encH (wnt T W) < 2 ^ 36 := encH_lt (wnt_lo (fun g hg => (hW g hg).2) hR6)
  have hlp : ∀ (hv : Nat), hv < 2 ^ 36 → isPR T (lq l0) (encH (wnt T W)) hv → ∀ (c g : Nat) (gv : Int) (M1 : Mem) (ov : Nat → Nat) (x4 : AV), g + c = tn T → gv = (g : Int) → WI M1 T W N lq l0 → eqx fhX M M1 → M1 25 2 = (l0 : Int) → M1 25 3 = M 25 3 → M1 25 4 = M 25 4 → (∀ k, k < g → isPR (holdT T k) (lq l0) hv (ov k)) → M1 25 0 = (hoF (mnF hv ov) g).1 → M1 25 1 = (hoF (mnF hv ov) g).2 → G X Y 53 [vR 25, vL hv, vX 1, vI gv, x4] [] M1 P := by
    intro hv hvl hpr c
    induction c with
    | zero =>
      intro g gv M1 ov x4 hg e1 hW1 hx1 f2 f3 f4 hov h0 h1
      subst e1
      have hg0 : M1 8 0 = (tn T : Int) := hW1.1.1.1
      refine G_il3 hC dX8_findHolder_53 ?_
      refine G_al0 hC dX8_findHolder_54 ?_
      refine G_getR hC fl_X8_18 (by first | assumption | rfl) (by omega) (by first | assumption | exact hGr _ _ _ rfl) dX8_findHolder_55 ?_
      refine G_getI hC fl_X8_70 (by first | assumption | rfl) (by omega) dX8_findHolder_58 ?_
      refine G_icmp_ge (tgt := 114) hC dX8_findHolder_61 (by decide) (by omega) (by omega) (fun c61 => ?_) (fun c61 => ?_)
      · exact G_vret hC hQ dX8_findHolder_114 ⟨rfl, rfl, hW1, hx1, f2, f3, f4, hv, ov, hpr, fun k hk => hov k (by omega), by rw [h0, show g = tn T by omega], by rw [h1, show g = tn T by omega]⟩
      · exact absurd c61 (by omega)
    | succ c ih =>
      intro g gv M1 ov x4 hg e1 hW1 hx1 f2 f3 f4 hov h0 h1
      subst e1
      have hg0 : M1 8 0 = (tn T : Int) := hW1.1.1.1
      obtain ⟨hh1, hh2, hh5⟩ := hold_R (g := g) hW1.1.1 hW1.2.1
      have hbe := (beM_at (M := M1) (t := 26) (o := 8) (by omega)).2.2.2.2
      obtain ⟨oS, oB, oW, oX⟩ := other_go hW1 (T' := holdT T g) rfl hh1 hh2 (fun a ha b => by
        rw [upM_ne (show a ≠ 27 from fun q => ha (by omega)), hbe a (fun q => ha (by omega)) (fun q => ha (by omega)) (fun q => ha (by omega)) (fun q => ha (by omega))])
      refine G_il3 hC dX8_findHolder_53 ?_
      refine G_al0 hC dX8_findHolder_54 ?_
      refine G_getR hC fl_X8_18 (by first | assumption | rfl) (by omega) (by first | assumption | exact hGr _ _ _ rfl) dX8_findHolder_55 ?_
      refine G_getI hC fl_X8_70 (by first | assumption | rfl) (by omega) dX8_findHolder_58 ?_
      refine G_icmp_ge (tgt := 114) hC dX8_findHolder_61 (by decide) (by omega) (by omega) (fun c61 => ?_) (fun c61 => ?_)
      · exact absurd c61 (by omega)
      · refine G_al0 hC dX8_findHolder_64 ?_
        refine G_il3 hC dX8_findHolder_65 ?_
        refine G_callVV hC (c_X8_makeHold hGr hW1.2.2.2.2.2.1 (by omega) (by omega)) mv_X8_73 (by first | assumption | rfl) (by omega) (by decide) rfl (by decide) dX8_findHolder_66 rfl (Nat.le_of_ble_eq_true rfl) rfl (fun M66 P66 h66 => ?_)
        obtain ⟨rfl, rfl⟩ := h66
        refine G_ll1 hC dX8_findHolder_69 ?_
        refine G_al0 hC dX8_findHolder_70 ?_
        refine G_getR hC fl_X8_50 (by first | assumption | rfl) (by omega) (by first | assumption | exact hGr _ _ _ rfl) dX8_findHolder_71 ?_
        refine G_ll1 hC dX8_findHolder_74 ?_
        refine G_callVL hC (c_X5_pairsReached hGr isSe30 oS oB hvl hLO) mv_X8_66 (by first | assumption | rfl) (by omega) (by decide) rfl (by decide) dX8_findHolder_75 rfl (Nat.le_of_ble_eq_true rfl) rfl (fun z75 M75 P75 h75 => ?_)
        skip
        obtain ⟨rfl, m2, k2, r1, r2, r3, r4⟩ := h75
        obtain ⟨zo, hzo⟩ : ∃ zo : Nat, zo = metN hv (bXn (holdT T g) m2 (st0 (lq l0))).1 k2 := ⟨_, rfl⟩
        have r2' : z75 = (zo : Int) := by rw [hzo]; exact r2
        subst r2'
        have hov2 : isPR (holdT T g) (lq l0) hv zo := ⟨m2, k2, hzo, r3, r4⟩
        obtain ⟨q1, q2, q3, q4⟩ := r1
        have hml : zo < 2 ^ 36 := by rw [hzo]; exact metN_lt hvl k2
        have hx2 : eqx oth M1 M75 := oX.trans (q3.mono (fun a h => by unfold seX at h; unfold oth; omega))
        have g0 : ∀ b, M75 25 b = M1 25 b := hx2 25 (by unfold oth; omega)
        have hmn : mnF hv (fun k => if k = g then zo else ov k) g = bcZ ((hv ^^^ (hv &&& zo) : Nat) : Int) := by unfold mnF; dsimp only; rw [if_pos rfl]
        have hbr : 0 ≤ bcZ ((hv ^^^ (hv &&& zo) : Nat) : Int) ∧ bcZ ((hv ^^^ (hv &&& zo) : Nat) : Int) ≤ 127 := bAnd127 _
        have hcg := hoF_congr (mn := mnF hv ov) (mn' := mnF hv (fun k => if k = g then zo else ov k)) g (fun k hk => by unfold mnF; dsimp only; rw [if_neg (by omega)])
        have hor := hoF_r (mnF hv ov) (fun k => bAnd127 _) g
        have g1 := g0 1
        have hW2 : WI M75 T W N lq l0 := WI_oth hW1 (hx2.mono (fun a h => Or.inl h))
        refine G_ldc2 (z := -1) hC kl_X8_77 (by decide) dX8_findHolder_78 ?_
        refine G_lxor hC dX8_findHolder_81 ?_
        refine G_land hC dX8_findHolder_82 ?_
        rw [lAndN_n (by omega) (by omega)]
        refine G_callSI hC (c_bitCount) ms_X8_79 (by decide) rfl (by decide) dX8_findHolder_83 rfl (Nat.le_of_ble_eq_true rfl) rfl (fun z83 M83 P83 h83 => ?_)
        obtain ⟨rfl, rfl, rfl⟩ := h83
        refine G_is4 hC dX8_findHolder_86 rfl ?_
        refine G_il4 hC dX8_findHolder_88 ?_
        refine G_al0 hC dX8_findHolder_90 ?_
        refine G_getI hC fl_X8_59 (by first | assumption | rfl) (by omega) dX8_findHolder_91 ?_
        refine G_icmp_le (tgt := 108) hC dX8_findHolder_94 (by decide) (by omega) (by omega) (fun c94 => ?_) (fun c94 => ?_)
        · refine G_inc3 hC dX8_findHolder_108 rfl ?_
          refine G_goto (tgt := 53) hC dX8_findHolder_111 (by decide) ?_
          exact ih (g + 1) _ M75 (fun k => if k = g then zo else ov k) _ (by omega) (by omega) hW2 (hx1.trans (hx2.mono (fun a h => Or.inr (Or.inl h)))) (by rw [g0]; exact f2) (by rw [g0]; exact f3) (by rw [g0]; exact f4) (fun k hk => by
            by_cases e : k = g
            · subst e; rw [if_pos rfl]; exact hov2
            · rw [if_neg e]; exact hov k (by omega)) (by rw [g0, h0]; show _ = (hoF _ (g + 1)).1; rw [hoF, hcg, if_neg (by rw [hmn]; omega)]) (by rw [g0, h1]; show _ = (hoF _ (g + 1)).2; rw [hoF, hcg, if_neg (by rw [hmn]; omega)])
        · refine G_al0 hC dX8_findHolder_97 ?_
          refine G_il3 hC dX8_findHolder_98 ?_
          refine G_putI hC fl_X8_56 (by first | assumption | rfl) (by omega) dX8_findHolder_99 ?_
          refine G_al0 hC dX8_findHolder_102 ?_
          refine G_il4 hC dX8_findHolder_103 ?_
          refine G_putI hC fl_X8_59 (by first | assumption | rfl) (by omega) dX8_findHolder_105 ?_
          refine G_inc3 hC dX8_findHolder_108 rfl ?_
          refine G_goto (tgt := 53) hC dX8_findHolder_111 (by decide) ?_
          exact ih (g + 1) _ _ (fun k => if k = g then zo else ov k) _ (by omega) (by omega) (WI_oth hW2 ((eqx_up (Or.inr rfl)).trans (eqx_up (Or.inr rfl)))) ((hx1.trans (hx2.mono (fun a h => Or.inr (Or.inl h)))).trans ((eqx_up (Or.inr (Or.inr rfl))).trans (eqx_up (Or.inr (Or.inr rfl))))) (by rw [upM_nej (by decide), upM_nej (by decide), g0]; exact f2) (by rw [upM_nej (by decide), upM_nej (by decide), g0]; exact f3) (by rw [upM_nej (by decide), upM_nej (by decide), g0]; exact f4) (fun k hk => by
            by_cases e : k = g
            · subst e; rw [if_pos rfl]; exact hov2
            · rw [if_neg e]; exact hov k (by omega)) (by rw [upM_nej (by decide), upM_self]; show _ = (hoF _ (g + 1)).1; rw [hoF, hcg, if_pos (by rw [hmn]; omega)]) (by rw [upM_self]; show _ = (hoF _ (g + 1)).2; rw [hoF, hcg, if_pos (by rw [hmn]; omega), hmn])
  refine G_al0 hC dX8_findHolder_0 ?_
  refine G_getI hC fl_X8_9 (by first | assumption | rfl) (by omega) dX8_findHolder_1 ?_
  refine G_al0 hC dX8_findHolder_4 ?_
  refine G_getR hC fl_X8_22 (by first | assumption | rfl) (by omega) (by first | assumption | exact hGr _ _ _ rfl) dX8_findHolder_5 ?_
  refine G_getI hC fl_X8_53 (by first | assumption | rfl) (by omega) dX8_findHolder_8 ?_
  refine G_icmp_ne (tgt := 15) hC dX8_findHolder_11 (by decide) (by omega) (by rw [hst]; omega) (fun c11 => ?_) (fun c11 => ?_)
  · refine G_al0 hC dX8_findHolder_15 ?_
    refine G_al0 hC dX8_findHolder_16 ?_
    refine G_getR hC fl_X8_22 (by first | assumption | rfl) (by omega) (by first | assumption | exact hGr _ _ _ rfl) dX8_findHolder_17 ?_
    refine G_getI hC fl_X8_53 (by first | assumption | rfl) (by omega) dX8_findHolder_20 ?_
    rw [hst]
    refine G_putI hC fl_X8_9 (by first | assumption | rfl) (by omega) dX8_findHolder_23 ?_
    refine G_al0 hC dX8_findHolder_26 ?_
    refine G_iconst hC dX8_findHolder_27 ?_
    refine G_putI hC fl_X8_56 (by first | assumption | rfl) (by omega) dX8_findHolder_28 ?_
    refine G_al0 hC dX8_findHolder_31 ?_
    refine G_iconst hC dX8_findHolder_32 ?_
    refine G_putI hC fl_X8_59 (by first | assumption | rfl) (by omega) dX8_findHolder_33 ?_
    refine G_al0 hC dX8_findHolder_36 ?_
    refine G_getR hC fl_X8_22 (by first | assumption | rfl) (by omega) (by first | assumption | exact hGr _ _ _ rfl) dX8_findHolder_37 ?_
    refine G_al0 hC dX8_findHolder_40 ?_
    refine G_getR hC fl_X8_18 (by first | assumption | rfl) (by omega) (by first | assumption | exact hGr _ _ _ rfl) dX8_findHolder_41 ?_
    refine G_callVL hC (c_X7_wantedPairs hGr isT8 (TabR_congr hR (fun b => by rw [upM_ne (by decide), upM_ne (by decide), upM_ne (by decide)]) (fun b => by rw [upM_ne (by decide), upM_ne (by decide), upM_ne (by decide)]) (fun b => by rw [upM_ne (by decide), upM_ne (by decide), upM_ne (by decide)])) (fun k hk => by rw [upM_ne (by decide), upM_ne (by decide), upM_ne (by decide)]; exact hW k hk)) mv_X8_62 (by first | assumption | rfl) (by omega) (by decide) rfl (by decide) dX8_findHolder_44 rfl (Nat.le_of_ble_eq_true rfl) rfl (fun z44 M44 P44 h44 => ?_)
    obtain ⟨rfl, rfl, rfl⟩ := h44
    refine G_callVL hC (c_X5_pairsReached hGr isSe17 (SI_25 hS ((eqx_up (by omega)).trans ((eqx_up (by omega)).trans (eqx_up (by omega))))) (SeB_congr hB (fun b => by rw [upM_ne (by decide), upM_ne (by decide), upM_ne (by decide)]) (fun b => by rw [upM_ne (by decide), upM_ne (by decide), upM_ne (by decide)]) (fun b => by rw [upM_ne (by decide), upM_ne (by decide), upM_ne (by decide)]) (fun b => by rw [upM_ne (by decide), upM_ne (by decide), upM_ne (by decide)])) hwl hLO) mv_X8_66 (by first | assumption | rfl) (by omega) (by decide) rfl (by decide) dX8_findHolder_47 rfl (Nat.le_of_ble_eq_true rfl) rfl (fun z47 M47 P47 h47 => ?_)
    skip
    obtain ⟨rfl, m2, k2, r1, r2, r3, r4⟩ := h47
    subst r2
    obtain ⟨q1, q2, q3, q4⟩ := r1
    rw [bXn_add] at q1 r3 r4
    have hvl := metN_lt (bl := (bXn T m2 (bXn T m0 (st0 (lq l0)))).1) hwl k2
    have g0 : ∀ b, M47 25 b = upM (upM (upM M 25 2 l0) 25 0 0) 25 1 0 25 b := q3 25 (by unfold seX; omega)
    have hbx : (bXn T m2 (bXn T m0 (st0 (lq l0)))).1 = (bXn T (m0 + m2) (st0 (lq l0))).1 := by rw [bXn_add]
    rw [hbx] at hvl ⊢
    refine G_ls1 hC dX8_findHolder_50 rfl ?_
    refine G_iconst hC dX8_findHolder_51 ?_
    refine G_is3 hC dX8_findHolder_52 rfl ?_
    exact hlp _ hvl ⟨m0 + m2, k2, rfl, r3, r4⟩ (tn T) 0 _ M47 (fun _ => 0) _ (by omega) rfl ⟨q2, fun k hk => by rw [q3 10 (by unfold seX; omega), upM_ne (by decide), upM_ne (by decide), upM_ne (by decide)]; exact hW k hk, hClo, hLO, hl0, by rw [q4, upM_ne (by decide), upM_ne (by decide), upM_ne (by decide)]; exact hst, m0 + m2, q1⟩ (((eqx_up (Or.inr (Or.inr rfl))).trans ((eqx_up (Or.inr (Or.inr rfl))).trans (eqx_up (Or.inr (Or.inr rfl))))).trans (q3.mono (fun a h => Or.inl h))) (by rw [g0, upM_nej (by decide), upM_nej (by decide), upM_self]) (by rw [g0, upM_nej (by decide), upM_nej (by decide), upM_nej (by decide)]) (by rw [g0, upM_nej (by decide), upM_nej (by decide), upM_nej (by decide)]) (fun k hk => by omega) (by rw [g0, upM_nej (by decide), upM_self]; rfl) (by rw [g0, upM_self]; rfl)
  · exact absurd (c11.trans hst) hne
set_option maxHeartbeats 4000000 in
set_option maxRecDepth 100000 in
theorem c_X8_findSame {l : Launch} {l0 : Nat} {M : Mem} {P : PMem} (hGr : Gr P) (hst : M 17 1 = (l0 : Int)) (hh : M 25 2 = (l0 : Int)) (hl : l0 ≤ 1023) : CtV l yX8_findHolder cX8_findHolder 5 none 6 164 45 [vR 25] M P (pV M P) := by
  refine Ct_of (own := RX8) (L := [vR 25, vX 1, vX 1, vX 1, vX 1]) (by decide) rfl rfl (Nat.le_of_ble_eq_true rfl) (fun X Y hl hC hQ => ?_)
  refine G_al0 hC dX8_findHolder_0 ?_
  refine G_getI hC fl_X8_9 (by first | assumption | rfl) (by omega) dX8_findHolder_1 ?_
  refine G_al0 hC dX8_findHolder_4 ?_
  refine G_getR hC fl_X8_22 (by first | assumption | rfl) (by omega) (by first | assumption | exact hGr _ _ _ rfl) dX8_findHolder_5 ?_
  refine G_getI hC fl_X8_53 (by first | assumption | rfl) (by omega) dX8_findHolder_8 ?_
  refine G_icmp_ne (tgt := 15) hC dX8_findHolder_11 (by decide) (by omega) (by omega) (fun c11 => ?_) (fun c11 => ?_)
  · exact absurd (hh.trans hst.symm) c11
  · exact G_vret hC hQ dX8_findHolder_14 ⟨rfl, rfl, rfl⟩
/-- seats changed, one pair behind the other -/
def bsR (T : TB) (W : Nat → Nat) (q : Nat) : List (Nat × Nat) → Int × Int → Int × Int → Prop
  | [], s, s' => s' = s
  | p :: ps, s, s' => if 0 < s.1 then ∃ r, isRS (seatT T p.1 p.2) (sw W p.1 p.2) q s.1 r ∧ bsR T W q ps (if r = -4 then s else (r, 10 * (p.1 : Int) + p.2)) s' else bsR T W q ps s s'
def prJ (i : Nat) : Nat → Nat → List (Nat × Nat)
  | 0, _ => []
  | c + 1, j => (i, j) :: prJ i c (j + 1)
def prI (n : Nat) : Nat → Nat → List (Nat × Nat)
  | 0, _ => []
  | c + 1, i => prJ i (n - (i + 1)) (i + 1) ++ prI n c (i + 1)
theorem bsR_app {T : TB} {W : Nat → Nat} {q : Nat} : ∀ (a b : List (Nat × Nat)) (s s1 s2 : Int × Int), bsR T W q a s s1 → bsR T W q b s1 s2 → bsR T W q (a ++ b) s s2
  | [], b, s, s1, s2, h1, h2 => by cases h1; exact h2
  | p :: a, b, s, s1, s2, h1, h2 => by
    unfold bsR at h1
    show bsR T W q (p :: (a ++ b)) s s2
    unfold bsR
    split at h1
    · rename_i hp
      obtain ⟨r, r1, r2⟩ := h1
      rw [if_pos hp]
      exact ⟨r, r1, bsR_app a b _ s1 s2 r2 h2⟩
    · rename_i hp
      rw [if_neg hp]
      exact bsR_app a b _ s1 s2 h1 h2
theorem bsR_skip {T : TB} {W : Nat → Nat} {q : Nat} : ∀ (a : List (Nat × Nat)) (s : Int × Int), ¬ 0 < s.1 → bsR T W q a s s
  | [], s, _ => rfl
  | p :: a, s, h => by unfold bsR; rw [if_neg h]; exact bsR_skip a s h
def bsQ (M : Mem) (P : PMem) (T : TB) (W : Nat → Nat) (N : Nat) (lq : Nat → Nat) (l0 : Nat) : Int → Mem → PMem → Prop := fun r M' P' => P = P' ∧ WI M' T W N lq l0 ∧ eqx fhX M M' ∧ M' 25 4 = (l0 : Int) ∧ M' 25 0 = M 25 0 ∧ M' 25 1 = M 25 1 ∧ M' 25 2 = M 25 2 ∧ M' 25 3 = r ∧ ∃ (r0 least : Int), isRS T W (lq l0) 1000000 r0 ∧ bsR T W (lq l0) (prI (tn T) (tn T) 0) (if r0 = -4 ∧ crI T W N lq = 1 then (1000000 : Int) else r0, -4) (least, r)
set_option maxHeartbeats 4000000 in
set_option maxRecDepth 100000 in
theorem c_X8_bestSeats {l : Launch} {N l0 : Nat} {T : TB} {W lq : Nat → Nat} {M : Mem} {P : PMem} (hGr : Gr P) (hWI : WI M T W N lq l0) (hne : ¬ M 25 4 = (l0 : Int)) (hrg : 0 ≤ M 25 4 ∧ M 25 4 ≤ 1023) : CtI l yX8_bestSeats cX8_bestSeats 5 (some .int) 6 161 45 [vR 25] M P (bsQ M P T W N lq l0) := by
  refine Ct_of (own := RX8) (L := [vR 25, vX 1, vX 1, vX 1, vX 1]) (by decide) rfl rfl (Nat.le_of_ble_eq_true rfl) (fun X Y hl hC hQ => ?_)
  obtain ⟨hS, hW, hClo, hLO, hl0, hst, m0, hB⟩ := id hWI
  have hR := hS.1
  obtain ⟨hR0, hR2, hR6, hRr, hRr1, hRk, hRw⟩ := id hR
  have hN7 := hS.2.1.2.2.1
  have hlJ : ∀ (s0 : Int × Int) (i : Nat) (ps : List (Nat × Nat)), i < tn T → (∀ (M2 : Mem) (le be : Int) (x3 x4 : AV), WI M2 T W N lq l0 → eqx fhX M M2 → M2 25 4 = (l0 : Int) → M2 25 0 = M 25 0 → M2 25 1 = M 25 1 → M2 25 2 = M 25 2 → M2 25 3 = be → -4 ≤ le → le ≤ 1000000 → bsR T W (lq l0) (ps ++ prJ i (tn T - (i + 1)) (i + 1)) s0 (le, be) → G X Y 136 [vR 25, vI le, vI i, x3, x4] [] M2 P) → ∀ (c j : Nat) (M1 : Mem) (le be jv : Int) (qs : List (Nat × Nat)) (x4 : AV), j + c = tn T → i < j → jv = (j : Int) → ps ++ prJ i (tn T - (i + 1)) (i + 1) = qs ++ prJ i c j → WI M1 T W N lq l0 → eqx fhX M M1 → M1 25 4 = (l0 : Int) → M1 25 0 = M 25 0 → M1 25 1 = M 25 1 → M1 25 2 = M 25 2 → M1 25 3 = be → -4 ≤ le → le ≤ 1000000 → bsR T W (lq l0) qs s0 (le, be) → G X Y 79 [vR 25, vI le, vI i, vI jv, x4] [] M1 P := by
    intro s0 i ps hi hnext c
    induction c with
    | zero =>
      intro j M1 le be jv qs x4 hj hij e1 hps hW1 hx1 f4 f0 f1 f2 f3 h4 h6 hb
      subst e1
      have hg0 : M1 8 0 = (tn T : Int) := hW1.1.1.1
      refine G_il3 hC dX8_bestSeats_79 ?_
      refine G_al0 hC dX8_bestSeats_80 ?_
      refine G_getR hC fl_X8_18 (by first | assumption | rfl) (by omega) (by first | assumption | exact hGr _ _ _ rfl) dX8_bestSeats_81 ?_
      refine G_getI hC fl_X8_70 (by first | assumption | rfl) (by omega) dX8_bestSeats_84 ?_
      refine G_icmp_ge (tgt := 136) hC dX8_bestSeats_87 (by decide) (by omega) (by omega) (fun c87 => ?_) (fun c87 => ?_)
      · exact hnext M1 le be _ _ hW1 hx1 f4 f0 f1 f2 f3 h4 h6 (by rw [hps]; exact bsR_app _ _ _ _ _ hb rfl)
      · exact absurd c87 (by omega)
    | succ c ih =>
      intro j M1 le be jv qs x4 hj hij e1 hps hW1 hx1 f4 f0 f1 f2 f3 h4 h6 hb
      subst e1
      have hg0 : M1 8 0 = (tn T : Int) := hW1.1.1.1
      obtain ⟨hh1, hh2, hh5, hhe⟩ := seat_R (i := i) (j := j) (by omega) (by omega) (by omega) hW1.1.1 hW1.2.1
      obtain ⟨oS, oB, oW, oX⟩ := other_go hW1 (T' := seatT T i j) rfl hh1 hh2 (fun a ha b => hhe a (fun q => ha (by omega)) (fun q => ha (by omega)) (fun q => ha (by omega)) (fun q => ha (by omega)) b)
      refine G_il3 hC dX8_bestSeats_79 ?_
      refine G_al0 hC dX8_bestSeats_80 ?_
      refine G_getR hC fl_X8_18 (by first | assumption | rfl) (by omega) (by first | assumption | exact hGr _ _ _ rfl) dX8_bestSeats_81 ?_
      refine G_getI hC fl_X8_70 (by first | assumption | rfl) (by omega) dX8_bestSeats_84 ?_
      refine G_icmp_ge (tgt := 136) hC dX8_bestSeats_87 (by decide) (by omega) (by omega) (fun c87 => ?_) (fun c87 => ?_)
      · exact absurd c87 (by omega)
      · refine G_il1 hC dX8_bestSeats_90 ?_
        refine G_if_le (tgt := 136) hC dX8_bestSeats_91 (by decide) (by omega) (fun c91 => ?_) (fun c91 => ?_)
        · exact hnext M1 le be _ _ hW1 hx1 f4 f0 f1 f2 f3 h4 h6 (by rw [hps]; exact bsR_app _ _ _ _ _ hb (bsR_skip _ _ (by dsimp only; omega)))
        · refine G_al0 hC dX8_bestSeats_94 ?_
          refine G_il2 hC dX8_bestSeats_95 ?_
          refine G_il3 hC dX8_bestSeats_96 ?_
          refine G_callVV hC (c_X8_changeSeats hGr hW1.2.2.2.2.2.1 (by omega) (by omega) (by omega)) mv_X8_97 (by first | assumption | rfl) (by omega) (by decide) rfl (by decide) dX8_bestSeats_97 rfl (Nat.le_of_ble_eq_true rfl) rfl (fun M97 P97 h97 => ?_)
          obtain ⟨rfl, rfl⟩ := h97
          refine G_al0 hC dX8_bestSeats_100 ?_
          refine G_getR hC fl_X8_50 (by first | assumption | rfl) (by omega) (by first | assumption | exact hGr _ _ _ rfl) dX8_bestSeats_101 ?_
          refine G_il1 hC dX8_bestSeats_104 ?_
          refine G_callVI hC (c_X5_stepsToRest hGr isSe30 oS oB oW (by omega)) mv_X8_89 (by first | assumption | rfl) (by omega) (by decide) rfl (by decide) dX8_bestSeats_105 rfl (Nat.le_of_ble_eq_true rfl) rfl (fun z105 M105 P105 h105 => ?_)
          skip
          obtain ⟨rfl, m2, r1, r2⟩ := h105
          obtain ⟨q1, q2, q3, q4⟩ := r1
          have hrs : isRS (seatT T i j) (sw W i j) (lq l0) le z105 := ⟨m2, r2⟩
          have hzr : z105 = -4 ∨ (0 ≤ z105 ∧ z105 < le) := by
            rcases r2 with ⟨k, e, z1, z2, z3⟩ | ⟨z1, z2⟩
            · exact Or.inr ⟨by omega, by omega⟩
            · exact Or.inl z1
          have hx2 : eqx oth M1 M105 := oX.trans (q3.mono (fun a h => by unfold seX at h; unfold oth; omega))
          have g0 : ∀ b, M105 25 b = M1 25 b := hx2 25 (by unfold oth; omega)
          have hW2 : WI M105 T W N lq l0 := WI_oth hW1 (hx2.mono (fun a h => Or.inl h))
          have hbs : bsR T W (lq l0) (qs ++ [(i, j)]) s0 (if z105 = -4 then (le, be) else (z105, 10 * (i : Int) + j)) := bsR_app _ _ _ _ _ hb (by unfold bsR; rw [if_pos (by dsimp only; omega)]; exact ⟨z105, hrs, rfl⟩)
          have hps2 : ps ++ prJ i (tn T - (i + 1)) (i + 1) = (qs ++ [(i, j)]) ++ prJ i c (j + 1) := by rw [hps, List.append_assoc]; rfl
          refine G_is4 hC dX8_bestSeats_108 rfl ?_
          refine G_il4 hC dX8_bestSeats_110 ?_
          refine G_bipush hC dX8_bestSeats_112 (by decide) ?_
          refine G_icmp_eq (tgt := 130) hC dX8_bestSeats_114 (by decide) (by omega) (by omega) (fun c114 => ?_) (fun c114 => ?_)
          · refine G_inc3 hC dX8_bestSeats_130 rfl ?_
            refine G_goto (tgt := 79) hC dX8_bestSeats_133 (by decide) ?_
            exact ih (j + 1) M105 le be _ (qs ++ [(i, j)]) _ (by omega) (by omega) (by omega) hps2 hW2 (hx1.trans (hx2.mono (fun a h => Or.inr (Or.inl h)))) (by rw [g0]; exact f4) (by rw [g0]; exact f0) (by rw [g0]; exact f1) (by rw [g0]; exact f2) (by rw [g0]; exact f3) h4 h6 (by rw [if_pos (by omega)] at hbs; exact hbs)
          · refine G_il4 hC dX8_bestSeats_117 ?_
            refine G_is1 hC dX8_bestSeats_119 rfl ?_
            refine G_al0 hC dX8_bestSeats_120 ?_
            refine G_bipush hC dX8_bestSeats_121 (by decide) ?_
            refine G_il2 hC dX8_bestSeats_123 ?_
            refine G_imul hC dX8_bestSeats_124 ?_
            refine G_il3 hC dX8_bestSeats_125 ?_
            refine G_iadd hC dX8_bestSeats_126 ?_
            refine G_putI hC fl_X8_85 (by first | assumption | rfl) (by omega) dX8_bestSeats_127 ?_
            refine G_inc3 hC dX8_bestSeats_130 rfl ?_
            refine G_goto (tgt := 79) hC dX8_bestSeats_133 (by decide) ?_
            exact ih (j + 1) _ z105 (10 * (i : Int) + j) _ (qs ++ [(i, j)]) _ (by omega) (by omega) (by omega) hps2 (WI_oth hW2 (eqx_up (Or.inr rfl))) ((hx1.trans (hx2.mono (fun a h => Or.inr (Or.inl h)))).trans (eqx_up (Or.inr (Or.inr rfl)))) (by rw [upM_nej (by decide), g0]; exact f4) (by rw [upM_nej (by decide), g0]; exact f0) (by rw [upM_nej (by decide), g0]; exact f1) (by rw [upM_nej (by decide), g0]; exact f2) (by rw [upM_self]) (by omega) (by omega) (by rw [if_neg (by omega)] at hbs; exact hbs)
  have hlI : ∀ (s0 : Int × Int), (∃ r0, isRS T W (lq l0) 1000000 r0 ∧ s0 = (if r0 = -4 ∧ crI T W N lq = 1 then (1000000 : Int) else r0, -4)) → ∀ (c i : Nat) (M1 : Mem) (le be iv : Int) (qs : List (Nat × Nat)) (x3 x4 : AV), i + c = tn T → iv = (i : Int) → prI (tn T) (tn T) 0 = qs ++ prI (tn T) c i → WI M1 T W N lq l0 → eqx fhX M M1 → M1 25 4 = (l0 : Int) → M1 25 0 = M 25 0 → M1 25 1 = M 25 1 → M1 25 2 = M 25 2 → M1 25 3 = be → -4 ≤ le → le ≤ 1000000 → bsR T W (lq l0) qs s0 (le, be) → G X Y 64 [vR 25, vI le, vI iv, x3, x4] [] M1 P := by
    intro s0 hs0 c
    induction c with
    | zero =>
      intro i M1 le be iv qs x3 x4 hi e1 hps hW1 hx1 f4 f0 f1 f2 f3 h4 h6 hb
      subst e1
      have hg0 : M1 8 0 = (tn T : Int) := hW1.1.1.1
      have hqs : prI (tn T) (tn T) 0 = qs := by rw [hps]; simp [prI]
      refine G_il2 hC dX8_bestSeats_64 ?_
      refine G_al0 hC dX8_bestSeats_65 ?_
      refine G_getR hC fl_X8_18 (by first | assumption | rfl) (by omega) (by first | assumption | exact hGr _ _ _ rfl) dX8_bestSeats_66 ?_
      refine G_getI hC fl_X8_70 (by first | assumption | rfl) (by omega) dX8_bestSeats_69 ?_
      refine G_icmp_ge (tgt := 142) hC dX8_bestSeats_72 (by decide) (by omega) (by omega) (fun c72 => ?_) (fun c72 => ?_)
      · refine G_al0 hC dX8_bestSeats_142 ?_
        refine G_getI hC fl_X8_85 (by first | assumption | rfl) (by omega) dX8_bestSeats_143 ?_
        exact G_iret hC hQ dX8_bestSeats_146 ⟨_, rfl, rfl, hW1, hx1, f4, f0, f1, f2, rfl, by
  obtain ⟨r0, z1, z2⟩ := hs0
  exact ⟨r0, le, z1, by rw [← z2, f3, hqs]; exact hb⟩⟩
      · exact absurd c72 (by omega)
    | succ c ih =>
      intro i M1 le be iv qs x3 x4 hi e1 hps hW1 hx1 f4 f0 f1 f2 f3 h4 h6 hb
      subst e1
      have hg0 : M1 8 0 = (tn T : Int) := hW1.1.1.1
      have h136 : ∀ (M2 : Mem) (le : Int) (x3 x4 : AV), G X Y 64 [vR 25, vI le, vI ((i : Int) + 1), x3, x4] [] M2 P → G X Y 136 [vR 25, vI le, vI i, x3, x4] [] M2 P := by
        intro M2 le x3 x4 hg
        refine G_inc2 hC dX8_bestSeats_136 rfl ?_
        refine G_goto (tgt := 64) hC dX8_bestSeats_139 (by decide) ?_
        exact hg
      refine G_il2 hC dX8_bestSeats_64 ?_
      refine G_al0 hC dX8_bestSeats_65 ?_
      refine G_getR hC fl_X8_18 (by first | assumption | rfl) (by omega) (by first | assumption | exact hGr _ _ _ rfl) dX8_bestSeats_66 ?_
      refine G_getI hC fl_X8_70 (by first | assumption | rfl) (by omega) dX8_bestSeats_69 ?_
      refine G_icmp_ge (tgt := 142) hC dX8_bestSeats_72 (by decide) (by omega) (by omega) (fun c72 => ?_) (fun c72 => ?_)
      · exact absurd c72 (by omega)
      · refine G_il2 hC dX8_bestSeats_75 ?_
        refine G_iconst hC dX8_bestSeats_76 ?_
        refine G_iadd hC dX8_bestSeats_77 ?_
        refine G_is3 hC dX8_bestSeats_78 rfl ?_
        exact hlJ s0 i qs (by omega) (fun M2 le be x3 x4 g1 g2 g3 g4 g5 g6 g7 g8 g9 g10 => h136 M2 le x3 x4 (ih (i + 1) M2 le be _ (qs ++ prJ i (tn T - (i + 1)) (i + 1)) _ _ (by omega) (by omega) (by rw [hps, List.append_assoc]; rfl) g1 g2 g3 g4 g5 g6 g7 g8 g9 g10)) (tn T - (i + 1)) (i + 1) M1 le be _ qs _ (by omega) (by omega) (by omega) rfl hW1 hx1 f4 f0 f1 f2 f3 h4 h6 hb
  refine G_al0 hC dX8_bestSeats_0 ?_
  refine G_getI hC fl_X8_15 (by first | assumption | rfl) (by omega) dX8_bestSeats_1 ?_
  refine G_al0 hC dX8_bestSeats_4 ?_
  refine G_getR hC fl_X8_22 (by first | assumption | rfl) (by omega) (by first | assumption | exact hGr _ _ _ rfl) dX8_bestSeats_5 ?_
  refine G_getI hC fl_X8_53 (by first | assumption | rfl) (by omega) dX8_bestSeats_8 ?_
  refine G_icmp_ne (tgt := 19) hC dX8_bestSeats_11 (by decide) (by omega) (by rw [hst]; omega) (fun c11 => ?_) (fun c11 => ?_)
  · refine G_al0 hC dX8_bestSeats_19 ?_
    refine G_al0 hC dX8_bestSeats_20 ?_
    refine G_getR hC fl_X8_22 (by first | assumption | rfl) (by omega) (by first | assumption | exact hGr _ _ _ rfl) dX8_bestSeats_21 ?_
    refine G_getI hC fl_X8_53 (by first | assumption | rfl) (by omega) dX8_bestSeats_24 ?_
    rw [hst]
    refine G_putI hC fl_X8_15 (by first | assumption | rfl) (by omega) dX8_bestSeats_27 ?_
    refine G_al0 hC dX8_bestSeats_30 ?_
    refine G_bipush hC dX8_bestSeats_31 (by decide) ?_
    refine G_putI hC fl_X8_85 (by first | assumption | rfl) (by omega) dX8_bestSeats_33 ?_
    refine G_al0 hC dX8_bestSeats_36 ?_
    refine G_getR hC fl_X8_22 (by first | assumption | rfl) (by omega) (by first | assumption | exact hGr _ _ _ rfl) dX8_bestSeats_37 ?_
    refine G_ldc (z := 1000000) hC kc_X8_88 (by decide) dX8_bestSeats_40 ?_
    refine G_callVI hC (c_X5_stepsToRest hGr isSe17 (SI_25 hS ((eqx_up (by omega)).trans (eqx_up (by omega)))) (SeB_congr hB (fun b => by rw [upM_ne (by decide), upM_ne (by decide)]) (fun b => by rw [upM_ne (by decide), upM_ne (by decide)]) (fun b => by rw [upM_ne (by decide), upM_ne (by decide)]) (fun b => by rw [upM_ne (by decide), upM_ne (by decide)])) (fun k hk => by rw [upM_ne (by decide), upM_ne (by decide)]; exact hW k hk) (by omega)) mv_X8_89 (by first | assumption | rfl) (by omega) (by decide) rfl (by decide) dX8_bestSeats_42 rfl (Nat.le_of_ble_eq_true rfl) rfl (fun z42 M42 P42 h42 => ?_)
    skip
    obtain ⟨rfl, m2, r1, r2⟩ := h42
    obtain ⟨q1, q2, q3, q4⟩ := r1
    rw [bXn_add] at q1
    have hrs : isRS T W (lq l0) 1000000 z42 := ⟨m0 + m2, by rw [← bXn_add]; exact r2⟩
    have hzr : z42 = -4 ∨ (0 ≤ z42 ∧ z42 < 1000000) := by
      rcases r2 with ⟨k, e, z1, z2, z3⟩ | ⟨z1, z2⟩
      · exact Or.inr ⟨by omega, by omega⟩
      · exact Or.inl z1
    have g0 : ∀ b, M42 25 b = upM (upM M 25 4 l0) 25 3 (-4) 25 b := q3 25 (by unfold seX; omega)
    have hW2 : WI M42 T W N lq l0 := ⟨q2, fun k hk => by rw [q3 10 (by unfold seX; omega), upM_ne (by decide), upM_ne (by decide)]; exact hW k hk, hClo, hLO, hl0, by rw [q4, upM_ne (by decide), upM_ne (by decide)]; exact hst, m0 + m2, q1⟩
    have hx2 : eqx fhX M M42 := ((eqx_up (Or.inr (Or.inr rfl))).trans (eqx_up (Or.inr (Or.inr rfl)))).trans (q3.mono (fun a h => Or.inl h))
    have f4 : M42 25 4 = (l0 : Int) := by rw [g0, upM_nej (by decide), upM_self]
    have f0 : M42 25 0 = M 25 0 := by rw [g0, upM_nej (by decide), upM_nej (by decide)]
    have f1 : M42 25 1 = M 25 1 := by rw [g0, upM_nej (by decide), upM_nej (by decide)]
    have f2 : M42 25 2 = M 25 2 := by rw [g0, upM_nej (by decide), upM_nej (by decide)]
    have f3 : M42 25 3 = -4 := by rw [g0, upM_self]
    have hcr : crI T W N lq = 1 ∨ crI T W N lq = 0 := by unfold crI; split <;> simp
    have hgo : ∀ (le : Int) (x2 x3 x4 : AV), le = (if z42 = -4 ∧ crI T W N lq = 1 then (1000000 : Int) else z42) → G X Y 64 [vR 25, vI le, vI 0, x3, x4] [] M42 P := by
      intro le x2 x3 x4 hle
      exact hlI (le, -4) ⟨z42, hrs, by rw [hle]⟩ (tn T) 0 M42 le (-4) 0 [] _ _ (by omega) rfl rfl hW2 hx2 f4 f0 f1 f2 f3 (by rw [hle]; split <;> omega) (by rw [hle]; split <;> omega) rfl
    refine G_is1 hC dX8_bestSeats_45 rfl ?_
    refine G_il1 hC dX8_bestSeats_46 ?_
    refine G_bipush hC dX8_bestSeats_47 (by decide) ?_
    refine G_icmp_ne (tgt := 62) hC dX8_bestSeats_49 (by decide) (by omega) (by omega) (fun c49 => ?_) (fun c49 => ?_)
    · refine G_iconst hC dX8_bestSeats_62 ?_
      refine G_is2 hC dX8_bestSeats_63 rfl ?_
      exact hgo _ (vX 1) _ _ (by first | (rw [if_pos ⟨by omega, by omega⟩]; done) | (rw [if_neg (fun q => by omega)]; done))
    · refine G_al0 hC dX8_bestSeats_52 ?_
      refine G_callVI hC (c_X8_canBeAtRest hGr hW2.1.1 hW2.2.1 hW2.1.2.1) mv_X8_93 (by first | assumption | rfl) (by omega) (by decide) rfl (by decide) dX8_bestSeats_53 rfl (Nat.le_of_ble_eq_true rfl) rfl (fun z53 M53 P53 h53 => ?_)
      obtain ⟨rfl, rfl, rfl⟩ := h53
      refine G_if_eq (tgt := 62) hC dX8_bestSeats_56 (by decide) (by omega) (fun c56 => ?_) (fun c56 => ?_)
      · refine G_iconst hC dX8_bestSeats_62 ?_
        refine G_is2 hC dX8_bestSeats_63 rfl ?_
        exact hgo _ (vX 1) _ _ (by first | (rw [if_pos ⟨by omega, by omega⟩]; done) | (rw [if_neg (fun q => by omega)]; done))
      · refine G_ldc (z := 1000000) hC kc_X8_88 (by decide) dX8_bestSeats_59 ?_
        refine G_is1 hC dX8_bestSeats_61 rfl ?_
        refine G_iconst hC dX8_bestSeats_62 ?_
        refine G_is2 hC dX8_bestSeats_63 rfl ?_
        exact hgo _ (vX 1) _ _ (by first | (rw [if_pos ⟨by omega, by omega⟩]; done) | (rw [if_neg (fun q => by omega)]; done))
  · exact absurd (c11.trans hst) hne
set_option maxHeartbeats 4000000 in
set_option maxRecDepth 100000 in
theorem c_X8_bestSame {l : Launch} {l0 : Nat} {M : Mem} {P : PMem} (hGr : Gr P) (hst : M 17 1 = (l0 : Int)) (hh : M 25 4 = (l0 : Int)) (hl : l0 ≤ 1023) : CtI l yX8_bestSeats cX8_bestSeats 5 (some .int) 6 161 45 [vR 25] M P (pI (M 25 3) M P) := by
  refine Ct_of (own := RX8) (L := [vR 25, vX 1, vX 1, vX 1, vX 1]) (by decide) rfl rfl (Nat.le_of_ble_eq_true rfl) (fun X Y hl hC hQ => ?_)
  refine G_al0 hC dX8_bestSeats_0 ?_
  refine G_getI hC fl_X8_15 (by first | assumption | rfl) (by omega) dX8_bestSeats_1 ?_
  refine G_al0 hC dX8_bestSeats_4 ?_
  refine G_getR hC fl_X8_22 (by first | assumption | rfl) (by omega) (by first | assumption | exact hGr _ _ _ rfl) dX8_bestSeats_5 ?_
  refine G_getI hC fl_X8_53 (by first | assumption | rfl) (by omega) dX8_bestSeats_8 ?_
  refine G_icmp_ne (tgt := 19) hC dX8_bestSeats_11 (by decide) (by omega) (by omega) (fun c11 => ?_) (fun c11 => ?_)
  · exact absurd (hh.trans hst.symm) c11
  · refine G_al0 hC dX8_bestSeats_14 ?_
    refine G_getI hC fl_X8_85 (by first | assumption | rfl) (by omega) dX8_bestSeats_15 ?_
    exact G_iret hC hQ dX8_bestSeats_18 ⟨_, rfl, rfl, rfl, rfl⟩
