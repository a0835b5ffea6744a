/-! making an object of the class -/
def tsQ : TS := addG (addG (addG ts0 0 0 2) 0 1 4) 0 2 1
theorem gk_1 : gOK ts0 0 0 2 := ⟨by decide, by decide, Or.inr ⟨by decide, fun i _ => by show (7 : Nat) ≠ 0; omega⟩, by decide⟩
theorem gk_2 : gOK (addG ts0 0 0 2) 0 1 4 := ⟨by decide, by decide, Or.inr ⟨by decide, by decide⟩, by decide⟩
theorem gk_3 : gOK (addG (addG ts0 0 0 2) 0 1 4) 0 2 1 := ⟨by decide, by decide, Or.inr ⟨by decide, by decide⟩, by decide⟩
theorem prs_s {tx : Nat → Nat} {len c p p' : Nat} {S S' : TS} (hp : p < len) (h : itm tx len p S = some (p', S')) : prsF tx len (c + 1) p S = prsF tx len c p' S' := by
  rw [prsF, if_pos hp, h]
theorem itm_g {p p1 p2 p3 k d w : Nat} {S : TS} (hc : strN p = 103) (h1 : nsp strN 24 (p + 1) 44 = some (k, p1)) (h2 : nsp strN 24 p1 44 = some (d, p2)) (h3 : nsp strN 24 p2 59 = some (w, p3)) (hg : gOK S k d w) : itm strN 24 p S = some (p3, addG S k d w) := by
  rw [itm_G hc]
  unfold itmG
  rw [h1]
  simp only
  rw [h2]
  simp only
  rw [h3]
  exact gEnd_1 hg
theorem prs_tx : prsF strN 24 301 0 ts0 = .inr tsQ := by
  have h0 : itm strN 24 0 ts0 = some (3, ts0) := by
    rw [itm_N (by decide) (by decide)]
    rfl
  have h1 : itm strN 24 3 ts0 = some (10, addG ts0 0 0 2) := itm_g (p1 := 6) (p2 := 8) (by decide) (by decide) (by decide) (by decide) gk_1
  have h2 : itm strN 24 10 (addG ts0 0 0 2) = some (17, addG (addG ts0 0 0 2) 0 1 4) := itm_g (p1 := 13) (p2 := 15) (by decide) (by decide) (by decide) (by decide) gk_2
  have h3 : itm strN 24 17 (addG (addG ts0 0 0 2) 0 1 4) = some (24, tsQ) := itm_g (p1 := 20) (p2 := 22) (by decide) (by decide) (by decide) (by decide) gk_3
  rw [prs_s (c := 300) (by omega) h0, prs_s (c := 299) (by omega) h1, prs_s (c := 298) (by omega) h2, prs_s (c := 297) (by omega) h3, prsF, if_neg (by omega)]
theorem strN_hi : ∀ k, 24 ≤ k → strN k = 0 := fun k hk => by
  unfold strN
  rw [List.getD_eq_getElem?_getD, List.getElem?_eq_none (by exact hk)]; rfl
def iM_pts (M : Mem) : Mem := (iM_mosI41 (zM (iM_mosI37 (zM (iM_momI (zM (iM_whaI (zM (iM_sumI (zM (iM_seaI17 (zM (iM_movI15 (zM (iM_layI (zM (iM_tabI (zM (iM_reaI (zM (iM_tabI (zM (zM M (1)) (2)) 2 3) (6))) (8)) 8 9) (12))) (15))) (17))) (21))) (25))) (36))) (37))) (41)))
def iP_pts (P : PMem) : PMem := (upP (iP_mosI41 (zP (upP (iP_mosI37 (zP (upP (iP_momI (zP (upP (iP_whaI (zP (upP (iP_sumI (zP (upP (iP_seaI17 (zP (upP (iP_movI15 (zP (upP (iP_layI (zP (upP (iP_tabI (zP (upP (iP_reaI (zP (upP (iP_tabI (zP (upP (zP P (1)) (0) 0 (some ((1)))) (2)) 2 3) (0) 2 (some ((2)))) (6))) (0) 3 (some ((6)))) (8)) 8 9) (0) 4 (some ((8)))) (12))) (0) 5 (some ((12)))) (15))) (0) 6 (some ((15)))) (17))) (0) 7 (some ((17)))) (21))) (0) 8 (some ((21)))) (25))) (0) 9 (some ((25)))) (36))) (0) 10 (some ((36)))) (37))) (0) 11 (some ((37)))) (41))) (0) 12 (some ((41))))
theorem pts_M {M : Mem} : (∀ k, k < 300 → iM_pts M 1 k = 0) ∧ iM_pts M 0 1 = M 0 1 ∧ ToB (iM_pts M) ∧ (iM_pts M 37 1 = 8 ∧ iM_pts M 41 1 = 2) ∧ ∀ k, k < 720 → iM_pts M 13 k = 0 := by
  refine ⟨fun k _ => rfl, rfl, ⟨fun g _ => ⟨?_, ?_⟩, fun b _ => ?_⟩, ⟨rfl, rfl⟩, fun k _ => rfl⟩
  · show 0 ≤ (0 : Int) ∧ (0 : Int) ≤ 3; omega
  · show 0 ≤ (0 : Int) ∧ (0 : Int) < 64; omega
  · show 0 ≤ (0 : Int) ∧ (0 : Int) ≤ 9; omega
theorem pts_P {P : PMem} : PW (iP_pts P) := by
  refine ⟨fun k j q h => ?_, 23, 24, Or.inl ⟨rfl, rfl⟩, rfl, rfl⟩
  unfold pstC at h
  split at h <;> first | (cases h; rfl) | cases h
def ptQ : Option AV → Mem → PMem → Prop := fun r M' P' => r = none ∧ PB P' 45 ∧ ∃ S' : AS, layTo (strN, 24) tsQ S' ∧ CIv 0 M' P' ((strN, 0), S'.2)
set_option maxHeartbeats 4000000 in
set_option maxRecDepth 100000 in
theorem c_X9_init {fm : Bool} {l : Launch} {M : Mem} {P : PMem} (hM0 : M 0 1 = 0) (hB : PB P 1) : CtZ fm l yX9_init cX9_init 2 none 7 160 44 14144 1 45 [vR 0] M P ptQ := by
  refine CtZ_of (own := RX9) (L := [vR 0, vX 1]) (nm := 1) (by decide) rfl rfl (Nat.le_of_ble_eq_true rfl) (Nat.le_refl _) (fun X ad hl hnm hcl hsl hZ hC hQ => ?_)
  refine G_al0 hC dX9_init_0 ?_
  refine G_obj hC oi_X9_3 rfl (by decide) (Nat.le_of_ble_eq_true rfl) dX9_init_1 ?_
  refine G_al0 hC dX9_init_4 ?_
  refine G_sipush hC dX9_init_5 (by decide) ?_
  refine G_newI hC aw_int rfl rfl hB (by omega) (by omega) (by simp [rO2] <;> omega) (by simp [rO2] <;> omega) dX9_init_8 (fun ad1 ha1 hC1 => ?_)
  have hZ1 := hZ.ad (fun k hk => ha1 k (Or.inr (by omega)))
  have hB1 := PB_z hB
  refine G_putFR hC1 hnm fl_X9_9 (fun _ _ _ h => by cases h; rfl) rfl (by dsimp only [yn]; omega) (fun _ => rfl) (fun _ => rfl) dX9_init_10 ?_
  have hB202 := PB_up (k := 0) (j := 0) (q := (1)) hB1 (by omega)
  refine G_al0 hC1 dX9_init_13 ?_
  refine G_new hC1 nw_X9_13 rfl hB202 (by omega) (by omega) (by simp [rO2] <;> omega) (by simp [rO2] <;> omega) dX9_init_14 (fun ad3 ha3 hC3 => ?_)
  have hZ2 := hZ1.ad (fun k hk => ha3 k (Or.inr (by omega)))
  have hB3 := PB_z hB202
  refine G_dup hC3 dX9_init_17 rfl ?_
  refine G_callIB hC3 (c_tabI (b := 2) (n := 3) rfl rfl rfl rfl (by omega) hB3) mi_X9_15 rfl (by decide) (Nat.le_of_ble_eq_true rfl) (by omega) (by omega) (by omega) rfl (by simp [rO2] <;> omega) (by simp [rO2] <;> omega) (fun r M' P' h => ⟨h.1, h.2.2.2⟩) dX9_init_18 rfl (fun ad4 M4 P4 h4 ha4 hC4 => ?_)
  have hZ3 := hZ2.ad (fun k hk => ha4 k (Or.inr (by omega)))
  obtain ⟨-, rfl, rfl, hB104⟩ := h4
  refine G_putFR hC4 hnm fl_X9_16 (fun _ _ _ h => by cases h; rfl) rfl (by dsimp only [yn]; omega) (fun _ => rfl) (fun _ => rfl) dX9_init_21 ?_
  have hB205 := PB_up (k := 0) (j := 2) (q := (2)) hB104 (by omega)
  refine G_al0 hC4 dX9_init_24 ?_
  refine G_new hC4 nw_X9_20 rfl hB205 (by omega) (by omega) (by simp [rO2] <;> omega) (by simp [rO2] <;> omega) dX9_init_25 (fun ad6 ha6 hC6 => ?_)
  have hZ4 := hZ3.ad (fun k hk => ha6 k (Or.inr (by omega)))
  have hB6 := PB_z hB205
  refine G_dup hC6 dX9_init_28 rfl ?_
  refine G_al0 hC6 dX9_init_29 ?_
  refine G_getR (q := 1) hC6 fl_X9_9 rfl (by omega) rfl dX9_init_30 ?_
  refine G_al0 hC6 dX9_init_33 ?_
  refine G_getR (q := 2) hC6 fl_X9_16 rfl (by omega) rfl dX9_init_34 ?_
  refine G_callIB hC6 (c_reaI hB6) mi_X9_22 rfl (by decide) (Nat.le_of_ble_eq_true rfl) (by omega) (by omega) (by omega) rfl (by simp [rO2] <;> omega) (by simp [rO2] <;> omega) (fun r M' P' h => ⟨h.1, h.2.2.2⟩) dX9_init_37 rfl (fun ad7 M7 P7 h7 ha7 hC7 => ?_)
  have hZ5 := hZ4.ad (fun k hk => ha7 k (Or.inr (by omega)))
  obtain ⟨-, rfl, rfl, hB107⟩ := h7
  refine G_putFR hC7 hnm fl_X9_25 (fun _ _ _ h => by cases h; rfl) rfl (by dsimp only [yn]; omega) (fun _ => rfl) (fun _ => rfl) dX9_init_40 ?_
  have hB208 := PB_up (k := 0) (j := 3) (q := (6)) hB107 (by omega)
  refine G_al0 hC7 dX9_init_43 ?_
  refine G_new hC7 nw_X9_13 rfl hB208 (by omega) (by omega) (by simp [rO2] <;> omega) (by simp [rO2] <;> omega) dX9_init_44 (fun ad9 ha9 hC9 => ?_)
  have hZ6 := hZ5.ad (fun k hk => ha9 k (Or.inr (by omega)))
  have hB9 := PB_z hB208
  refine G_dup hC9 dX9_init_47 rfl ?_
  refine G_callIB hC9 (c_tabI (b := 8) (n := 9) rfl rfl rfl rfl (by omega) hB9) mi_X9_15 rfl (by decide) (Nat.le_of_ble_eq_true rfl) (by omega) (by omega) (by omega) rfl (by simp [rO2] <;> omega) (by simp [rO2] <;> omega) (fun r M' P' h => ⟨h.1, h.2.2.2⟩) dX9_init_48 rfl (fun ad10 M10 P10 h10 ha10 hC10 => ?_)
  have hZ7 := hZ6.ad (fun k hk => ha10 k (Or.inr (by omega)))
  obtain ⟨-, rfl, rfl, hB110⟩ := h10
  refine G_putFR hC10 hnm fl_X9_29 (fun _ _ _ h => by cases h; rfl) rfl (by dsimp only [yn]; omega) (fun _ => rfl) (fun _ => rfl) dX9_init_51 ?_
  have hB211 := PB_up (k := 0) (j := 4) (q := (8)) hB110 (by omega)
  refine G_al0 hC10 dX9_init_54 ?_
  refine G_new hC10 nw_X9_32 rfl hB211 (by omega) (by omega) (by simp [rO2] <;> omega) (by simp [rO2] <;> omega) dX9_init_55 (fun ad12 ha12 hC12 => ?_)
  have hZ8 := hZ7.ad (fun k hk => ha12 k (Or.inr (by omega)))
  have hB12 := PB_z hB211
  refine G_dup hC12 dX9_init_58 rfl ?_
  refine G_callIB hC12 (c_layI hB12) mi_X9_34 rfl (by decide) (Nat.le_of_ble_eq_true rfl) (by omega) (by omega) (by omega) rfl (by simp [rO2] <;> omega) (by simp [rO2] <;> omega) (fun r M' P' h => ⟨h.1, h.2.2.2⟩) dX9_init_59 rfl (fun ad13 M13 P13 h13 ha13 hC13 => ?_)
  have hZ9 := hZ8.ad (fun k hk => ha13 k (Or.inr (by omega)))
  obtain ⟨-, rfl, rfl, hB113⟩ := h13
  refine G_putFR hC13 hnm fl_X9_35 (fun _ _ _ h => by cases h; rfl) rfl (by dsimp only [yn]; omega) (fun _ => rfl) (fun _ => rfl) dX9_init_62 ?_
  have hB214 := PB_up (k := 0) (j := 5) (q := (12)) hB113 (by omega)
  refine G_al0 hC13 dX9_init_65 ?_
  refine G_new hC13 nw_X9_39 rfl hB214 (by omega) (by omega) (by simp [rO2] <;> omega) (by simp [rO2] <;> omega) dX9_init_66 (fun ad15 ha15 hC15 => ?_)
  have hZ10 := hZ9.ad (fun k hk => ha15 k (Or.inr (by omega)))
  have hB15 := PB_z hB214
  refine G_dup hC15 dX9_init_69 rfl ?_
  refine G_al0 hC15 dX9_init_70 ?_
  refine G_getR (q := 8) hC15 fl_X9_29 rfl (by omega) rfl dX9_init_71 ?_
  refine G_al0 hC15 dX9_init_74 ?_
  refine G_getR (q := 12) hC15 fl_X9_35 rfl (by omega) rfl dX9_init_75 ?_
  refine G_sipush hC15 dX9_init_78 (by decide) ?_
  refine G_callIB hC15 (c_movI15 hB15) mi_X9_41 rfl (by decide) (Nat.le_of_ble_eq_true rfl) (by omega) (by omega) (by omega) rfl (by simp [rO2] <;> omega) (by simp [rO2] <;> omega) (fun r M' P' h => ⟨h.1, h.2.2.2⟩) dX9_init_81 rfl (fun ad16 M16 P16 h16 ha16 hC16 => ?_)
  have hZ11 := hZ10.ad (fun k hk => ha16 k (Or.inr (by omega)))
  obtain ⟨-, rfl, rfl, hB116⟩ := h16
  refine G_putFR hC16 hnm fl_X9_44 (fun _ _ _ h => by cases h; rfl) rfl (by dsimp only [yn]; omega) (fun _ => rfl) (fun _ => rfl) dX9_init_84 ?_
  have hB217 := PB_up (k := 0) (j := 6) (q := (15)) hB116 (by omega)
  refine G_al0 hC16 dX9_init_87 ?_
  refine G_new hC16 nw_X9_48 rfl hB217 (by omega) (by omega) (by simp [rO2] <;> omega) (by simp [rO2] <;> omega) dX9_init_88 (fun ad18 ha18 hC18 => ?_)
  have hZ12 := hZ11.ad (fun k hk => ha18 k (Or.inr (by omega)))
  have hB18 := PB_z hB217
  refine G_dup hC18 dX9_init_91 rfl ?_
  refine G_al0 hC18 dX9_init_92 ?_
  refine G_getR (q := 15) hC18 fl_X9_44 rfl (by omega) rfl dX9_init_93 ?_
  refine G_callIB hC18 (c_seaI17 hB18) mi_X9_50 rfl (by decide) (Nat.le_of_ble_eq_true rfl) (by omega) (by omega) (by omega) rfl (by simp [rO2] <;> omega) (by simp [rO2] <;> omega) (fun r M' P' h => ⟨h.1, h.2.2.2⟩) dX9_init_96 rfl (fun ad19 M19 P19 h19 ha19 hC19 => ?_)
  have hZ13 := hZ12.ad (fun k hk => ha19 k (Or.inr (by omega)))
  obtain ⟨-, rfl, rfl, hB119⟩ := h19
  refine G_putFR hC19 hnm fl_X9_53 (fun _ _ _ h => by cases h; rfl) rfl (by dsimp only [yn]; omega) (fun _ => rfl) (fun _ => rfl) dX9_init_99 ?_
  have hB220 := PB_up (k := 0) (j := 7) (q := (17)) hB119 (by omega)
  refine G_al0 hC19 dX9_init_102 ?_
  refine G_new hC19 nw_X9_57 rfl hB220 (by omega) (by omega) (by simp [rO2] <;> omega) (by simp [rO2] <;> omega) dX9_init_103 (fun ad21 ha21 hC21 => ?_)
  have hZ14 := hZ13.ad (fun k hk => ha21 k (Or.inr (by omega)))
  have hB21 := PB_z hB220
  refine G_dup hC21 dX9_init_106 rfl ?_
  refine G_al0 hC21 dX9_init_107 ?_
  refine G_getR (q := 15) hC21 fl_X9_44 rfl (by omega) rfl dX9_init_108 ?_
  refine G_callIB hC21 (c_sumI hB21) mi_X9_59 rfl (by decide) (Nat.le_of_ble_eq_true rfl) (by omega) (by omega) (by omega) rfl (by simp [rO2] <;> omega) (by simp [rO2] <;> omega) (fun r M' P' h => ⟨h.1, h.2.2.2⟩) dX9_init_111 rfl (fun ad22 M22 P22 h22 ha22 hC22 => ?_)
  have hZ15 := hZ14.ad (fun k hk => ha22 k (Or.inr (by omega)))
  obtain ⟨-, rfl, rfl, hB122⟩ := h22
  refine G_putFR hC22 hnm fl_X9_60 (fun _ _ _ h => by cases h; rfl) rfl (by dsimp only [yn]; omega) (fun _ => rfl) (fun _ => rfl) dX9_init_114 ?_
  have hB223 := PB_up (k := 0) (j := 8) (q := (21)) hB122 (by omega)
  refine G_al0 hC22 dX9_init_117 ?_
  refine G_new hC22 nw_X9_64 rfl hB223 (by omega) (by omega) (by simp [rO2] <;> omega) (by simp [rO2] <;> omega) dX9_init_118 (fun ad24 ha24 hC24 => ?_)
  have hZ16 := hZ15.ad (fun k hk => ha24 k (Or.inr (by omega)))
  have hB24 := PB_z hB223
  refine G_dup hC24 dX9_init_121 rfl ?_
  refine G_al0 hC24 dX9_init_122 ?_
  refine G_getR (q := 8) hC24 fl_X9_29 rfl (by omega) rfl dX9_init_123 ?_
  refine G_al0 hC24 dX9_init_126 ?_
  refine G_getR (q := 17) hC24 fl_X9_53 rfl (by omega) rfl dX9_init_127 ?_
  refine G_callIB hC24 (c_whaI (by rfl) (by rfl) hB24) mi_X9_66 rfl (by decide) (Nat.le_of_ble_eq_true rfl) (by omega) (by omega) (by omega) rfl (by simp [rO2] <;> omega) (by simp [rO2] <;> omega) (fun r M' P' h => ⟨h.1, h.2.2.2⟩) dX9_init_130 rfl (fun ad25 M25 P25 h25 ha25 hC25 => ?_)
  have hZ17 := hZ16.ad (fun k hk => ha25 k (Or.inr (by omega)))
  obtain ⟨-, rfl, rfl, hB125⟩ := h25
  refine G_putFR hC25 hnm fl_X9_69 (fun _ _ _ h => by cases h; rfl) rfl (by dsimp only [yn]; omega) (fun _ => rfl) (fun _ => rfl) dX9_init_133 ?_
  have hB226 := PB_up (k := 0) (j := 9) (q := (25)) hB125 (by omega)
  refine G_al0 hC25 dX9_init_136 ?_
  refine G_new hC25 nw_X9_73 rfl hB226 (by omega) (by omega) (by simp [rO2] <;> omega) (by simp [rO2] <;> omega) dX9_init_137 (fun ad27 ha27 hC27 => ?_)
  have hZ18 := hZ17.ad (fun k hk => ha27 k (Or.inr (by omega)))
  have hB27 := PB_z hB226
  refine G_dup hC27 dX9_init_140 rfl ?_
  refine G_callIB hC27 (c_momI hB27) mi_X9_75 rfl (by decide) (Nat.le_of_ble_eq_true rfl) (by omega) (by omega) (by omega) rfl (by simp [rO2] <;> omega) (by simp [rO2] <;> omega) (fun r M' P' h => ⟨h.1, h.2.2.2⟩) dX9_init_141 rfl (fun ad28 M28 P28 h28 ha28 hC28 => ?_)
  have hZ19 := hZ18.ad (fun k hk => ha28 k (Or.inr (by omega)))
  obtain ⟨-, rfl, rfl, hB128⟩ := h28
  refine G_putFR hC28 hnm fl_X9_76 (fun _ _ _ h => by cases h; rfl) rfl (by dsimp only [yn]; omega) (fun _ => rfl) (fun _ => rfl) dX9_init_144 ?_
  have hB229 := PB_up (k := 0) (j := 10) (q := (36)) hB128 (by omega)
  refine G_al0 hC28 dX9_init_147 ?_
  refine G_new hC28 nw_X9_80 rfl hB229 (by omega) (by omega) (by simp [rO2] <;> omega) (by simp [rO2] <;> omega) dX9_init_148 (fun ad30 ha30 hC30 => ?_)
  have hZ20 := hZ19.ad (fun k hk => ha30 k (Or.inr (by omega)))
  have hB30 := PB_z hB229
  refine G_dup hC30 dX9_init_151 rfl ?_
  refine G_bipush hC30 dX9_init_152 (by decide) ?_
  refine G_callIB hC30 (c_mosI37 hB30) mi_X9_82 rfl (by decide) (Nat.le_of_ble_eq_true rfl) (by omega) (by omega) (by omega) rfl (by simp [rO2] <;> omega) (by simp [rO2] <;> omega) (fun r M' P' h => ⟨h.1, h.2.2.2⟩) dX9_init_154 rfl (fun ad31 M31 P31 h31 ha31 hC31 => ?_)
  have hZ21 := hZ20.ad (fun k hk => ha31 k (Or.inr (by omega)))
  obtain ⟨-, rfl, rfl, hB131⟩ := h31
  refine G_putFR hC31 hnm fl_X9_85 (fun _ _ _ h => by cases h; rfl) rfl (by dsimp only [yn]; omega) (fun _ => rfl) (fun _ => rfl) dX9_init_157 ?_
  have hB232 := PB_up (k := 0) (j := 11) (q := (37)) hB131 (by omega)
  refine G_al0 hC31 dX9_init_160 ?_
  refine G_new hC31 nw_X9_80 rfl hB232 (by omega) (by omega) (by simp [rO2] <;> omega) (by simp [rO2] <;> omega) dX9_init_161 (fun ad33 ha33 hC33 => ?_)
  have hZ22 := hZ21.ad (fun k hk => ha33 k (Or.inr (by omega)))
  have hB33 := PB_z hB232
  refine G_dup hC33 dX9_init_164 rfl ?_
  refine G_iconst hC33 dX9_init_165 ?_
  refine G_callIB hC33 (c_mosI41 hB33) mi_X9_82 rfl (by decide) (Nat.le_of_ble_eq_true rfl) (by omega) (by omega) (by omega) rfl (by simp [rO2] <;> omega) (by simp [rO2] <;> omega) (fun r M' P' h => ⟨h.1, h.2.2.2⟩) dX9_init_166 rfl (fun ad34 M34 P34 h34 ha34 hC34 => ?_)
  have hZ23 := hZ22.ad (fun k hk => ha34 k (Or.inr (by omega)))
  obtain ⟨-, rfl, rfl, hB134⟩ := h34
  refine G_putFR hC34 hnm fl_X9_89 (fun _ _ _ h => by cases h; rfl) rfl (by dsimp only [yn]; omega) (fun _ => rfl) (fun _ => rfl) dX9_init_169 ?_
  have hB235 := PB_up (k := 0) (j := 12) (q := (41)) hB134 (by omega)
  have hpP := pts_P (P := P)
  have hpM := pts_M (M := M)
  have hpB : PB (iP_pts P) 45 := hB235
  have hCn : OK X (ad34, 45, 44, 14144) cX9_init RX9 2 none 7 160 45 := hC34
  have hZn := hZ23
  change G X (ad34, 45, 44, 14144) 172 [vR 0, vX 1] [] (iM_pts M) (iP_pts P)
  generalize iM_pts M = M1 at hpM ⊢
  generalize iP_pts P = P1 at hpP hpB ⊢
  obtain ⟨p1, p2, p3, p4, p5⟩ := hpM
  rw [hM0] at p2
  have hGr := hpP.1
  have hlp : ∀ (c k : Nat) (kv : Int) (M2 : Mem), k + c = 24 → kv = (k : Int) → (∀ j, j < k → M2 1 j = (strN j : Int)) → (∀ j, k ≤ j → j < 300 → M2 1 j = 0) → M2 0 1 = (k : Int) → (∀ a, a ≠ 0 → a ≠ 1 → ∀ b, M2 a b = M1 a b) → G X (ad34, 45, 44, 14144) 174 [vR 0, vI kv] [] M2 P1 := by
    intro c
    induction c with
    | zero =>
      intro k kv M2 hkc e1 hA hB2 h01 hE
      subst e1
      have hk24 : k = 24 := by omega
      subst hk24
      have hpre : preL M2 P1 (strN, 24) := by
        refine ⟨hpP, fun j hj => ?_, h01, by show (24 : Nat) ≤ 300; omega, ToB_e (fun a ha b => hE a (by omega) (by omega) b) p3, ⟨by rw [hE 37 (by omega) (by omega)]; exact p4.1, by rw [hE 41 (by omega) (by omega)]; exact p4.2⟩, fun j hj => by rw [hE 13 (by omega) (by omega), p5 j hj]; omega⟩
        show M2 1 j = (strN j : Int) ∧ strN j < 256
        rcases Nat.lt_or_ge j 24 with q | q
        · exact ⟨hA j q, by have := strN_lt j q; omega⟩
        · rw [strN_hi j q]; exact ⟨hB2 j q hj, by omega⟩
      refine G_il1 hCn dX9_init_174 ?_
      refine G_ldcS hCn hZn.1 dX9_init_175 ?_
      refine G_callZV hCn hZn c_strlen mz_X9_94 rfl (by decide) (Nat.le_of_ble_eq_true rfl) rfl dX9_init_177 rfl (fun r M' P' h => ?_)
      obtain ⟨rfl, rfl, rfl⟩ := h
      refine G_icmp_ge (tgt := 215) hCn dX9_init_180 (by decide) (by omega) (by omega) (fun c180 => ?_) (fun c180 => ?_)
      · refine G_al0 hCn dX9_init_215 ?_
        refine G_callVI hCn (c_X9_lay hpre) mv_X9_107 rfl (by omega) (by decide) rfl (by decide) dX9_init_216 rfl (Nat.le_of_ble_eq_true rfl) rfl (fun z M3 P3 h3 => ?_)
        obtain ⟨hPe, r1, r2⟩ := h3
        subst hPe
        have hfin : ∃ S' : AS, layTo (strN, 24) tsQ S' ∧ CIv 0 (upM M3 0 1 0) P' ((strN, 0), S'.2) := by
          rcases r2 with ⟨-, -, -, ⟨p, q1⟩ | ⟨Q, q1, q2⟩⟩ | ⟨Q, S', q1, q2, q3, q4, q5⟩
          · rw [prs_tx] at q1; cases q1
          · rw [prs_tx] at q1
            cases q1
            exact absurd q2 (by decide)
          · rw [prs_tx] at q1
            cases q1
            refine ⟨S', q4, ?_⟩
            have hS1 : S' = ((strN, 24), S'.2) := by rw [← q4.1]
            obtain ⟨a1, a2, ⟨b1, b2, b3⟩, a4⟩ := id q5
            have hx := (CIv_tx (x := (strN, 0)) (M' := upM M3 0 1 0) q5 (eqx_up (S := fun a => a ≤ 7) (k := 0) (by omega)) ⟨fun k hk => by
              rw [upM_ne (by omega)]
              have := b1 k hk
              rw [hS1] at this
              exact this, by show upM M3 0 1 0 0 1 = _; rw [upM_self]; rfl, ToB_e (fun a ha b => upM_ne (by omega) b) b3⟩ (by show (0 : Nat) ≤ 300; omega)).1
            exact hx
        refine G_pop hCn dX9_init_219 rfl ?_
        refine G_al0 hCn dX9_init_220 ?_
        refine G_iconst hCn dX9_init_221 ?_
        refine G_putI hCn fl_X9_104 rfl (by omega) dX9_init_222 ?_
        exact G_vret hCn hQ dX9_init_225 ⟨rfl, hpB, hfin⟩
      · exact absurd c180 (by omega)
    | succ c ih =>
      intro k kv M2 hkc e1 hA hB2 h01 hE
      subst e1
      have hs := strN_lt k (by omega)
      refine G_il1 hCn dX9_init_174 ?_
      refine G_ldcS hCn hZn.1 dX9_init_175 ?_
      refine G_callZV hCn hZn c_strlen mz_X9_94 rfl (by decide) (Nat.le_of_ble_eq_true rfl) rfl dX9_init_177 rfl (fun r M' P' h => ?_)
      obtain ⟨rfl, rfl, rfl⟩ := h
      refine G_icmp_ge (tgt := 215) hCn dX9_init_180 (by decide) (by omega) (by omega) (fun c180 => ?_) (fun c180 => ?_)
      · exact absurd c180 (by omega)
      · refine G_il1 hCn dX9_init_183 ?_
        refine G_sipush hCn dX9_init_184 (by decide) ?_
        refine G_icmp_ge (tgt := 215) hCn dX9_init_187 (by decide) (by omega) (by omega) (fun c187 => absurd c187 (by omega)) (fun _ => ?_)
        refine G_al0 hCn dX9_init_190 ?_
        refine G_getR hCn fl_X9_9 rfl (by omega) (hGr 0 0 1 rfl) dX9_init_191 ?_
        refine G_il1 hCn dX9_init_194 ?_
        refine G_ldcS hCn hZn.1 dX9_init_195 ?_
        refine G_il1 hCn dX9_init_197 ?_
        refine G_callZV hCn hZn (c_strAt (k := k) (by omega)) mz_X9_100 rfl (by decide) (Nat.le_of_ble_eq_true rfl) rfl dX9_init_198 rfl (fun r M' P' h => ?_)
        obtain ⟨rfl, rfl, rfl⟩ := h
        refine G_iastoreN (n := k) hCn rfl (by omega) (by omega) (by omega) dX9_init_201 ?_
        refine G_al0 hCn dX9_init_202 ?_
        refine G_il1 hCn dX9_init_203 ?_
        refine G_iconst hCn dX9_init_204 ?_
        refine G_iadd hCn dX9_init_205 ?_
        refine G_putI hCn fl_X9_104 rfl (by omega) dX9_init_206 ?_
        refine G_inc1 hCn dX9_init_209 rfl ?_
        refine G_goto (tgt := 174) hCn dX9_init_212 (by decide) ?_
        exact ih (k + 1) _ _ (by omega) (by omega) (fun j hj => by
          rw [upM_ne (by omega)]
          by_cases z : j = k
          · rw [z, upM_self]
          · rw [upM_nej z]; exact hA j (by omega)) (fun j h1 h2 => by rw [upM_ne (by omega), upM_nej (by omega)]; exact hB2 j (by omega) h2) (by rw [upM_self]; omega) (fun a h1 h2 b => by rw [upM_ne h1, upM_ne h2]; exact hE a h1 h2 b)
  refine G_iconst hCn dX9_init_172 ?_
  refine G_is1 hCn dX9_init_173 rfl ?_
  exact hlp 24 0 _ _ (by omega) rfl (fun j hj => by omega) (fun j _ hj => p1 j hj) p2 (fun a _ _ b => rfl)
