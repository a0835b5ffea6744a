/-! making an object of the reference -/
def iM_mdl (M : Mem) : Mem := (zM (zM (zM (zM (zM (zM (zM (zM (zM (zM (zM (zM (zM (zM (zM (zM (zM (zM (zM (zM (zM (zM (zM (zM (zM (zM (zM (zM (zM (zM (zM M (46)) (47)) (48)) (49)) (50)) (51)) (52)) (53)) (54)) (55)) (56)) (57)) (58)) (59)) (60)) (61)) (62)) (63)) (64)) (65)) (66)) (67)) (68)) (69)) (70)) (71)) (72)) (73)) (74)) (75)) (76))
def iP_mdl (P : PMem) : PMem := (upP (zP (upP (zP (upP (zP (upP (zP (upP (zP (upP (zP (upP (zP (upP (zP (upP (zP (upP (zP (upP (zP (upP (zP (upP (zP (upP (zP (upP (zP (upP (zP (upP (zP (upP (zP (upP (zP (upP (zP (upP (zP (upP (zP (upP (zP (upP (zP (upP (zP (upP (zP (upP (zP (upP (zP (upP (zP (upP (zP (upP (zP P (46)) (45) 5 (some ((46)))) (47)) (45) 6 (some ((47)))) (48)) (45) 7 (some ((48)))) (49)) (45) 8 (some ((49)))) (50)) (45) 9 (some ((50)))) (51)) (45) 10 (some ((51)))) (52)) (45) 13 (some ((52)))) (53)) (45) 14 (some ((53)))) (54)) (45) 15 (some ((54)))) (55)) (45) 17 (some ((55)))) (56)) (45) 18 (some ((56)))) (57)) (45) 19 (some ((57)))) (58)) (45) 20 (some ((58)))) (59)) (45) 28 (some ((59)))) (60)) (45) 29 (some ((60)))) (61)) (45) 30 (some ((61)))) (62)) (45) 31 (some ((62)))) (63)) (45) 32 (some ((63)))) (64)) (45) 33 (some ((64)))) (65)) (45) 34 (some ((65)))) (66)) (45) 35 (some ((66)))) (67)) (45) 36 (some ((67)))) (68)) (45) 38 (some ((68)))) (69)) (45) 39 (some ((69)))) (70)) (45) 40 (some ((70)))) (71)) (45) 43 (some ((71)))) (72)) (45) 44 (some ((72)))) (73)) (45) 45 (some ((73)))) (74)) (45) 46 (some ((74)))) (75)) (45) 47 (some ((75)))) (76)) (45) 48 (some ((76))))
theorem mdl_M {M : Mem} : (∀ b, iM_mdl M 59 b = 0) ∧ (∀ b, iM_mdl M 67 b = 0) ∧ ∀ a, a < 46 → ∀ b, iM_mdl M a b = M a b := by
  refine ⟨fun b => rfl, fun b => rfl, fun a ha b => ?_⟩
  unfold iM_mdl
  rw [zM_o (by omega), zM_o (by omega), zM_o (by omega), zM_o (by omega), zM_o (by omega), zM_o (by omega), zM_o (by omega), zM_o (by omega), zM_o (by omega), zM_o (by omega), zM_o (by omega), zM_o (by omega), zM_o (by omega), zM_o (by omega), zM_o (by omega), zM_o (by omega), zM_o (by omega), zM_o (by omega), zM_o (by omega), zM_o (by omega), zM_o (by omega), zM_o (by omega), zM_o (by omega), zM_o (by omega), zM_o (by omega), zM_o (by omega), zM_o (by omega), zM_o (by omega), zM_o (by omega), zM_o (by omega), zM_o (by omega)]
theorem mdl_P {P : PMem} : GrM (iP_mdl P) ∧ ∀ a, a < 45 → ∀ b, iP_mdl P a b = P a b := by
  refine ⟨fun j q h => ?_, fun a ha b => ?_⟩
  · unfold pstM at h
    split at h <;> first | (cases h; rfl) | cases h
  · unfold iP_mdl
    rw [upP_ne (by omega), zP_o (by omega), upP_ne (by omega), zP_o (by omega), upP_ne (by omega), zP_o (by omega), upP_ne (by omega), zP_o (by omega), upP_ne (by omega), zP_o (by omega), upP_ne (by omega), zP_o (by omega), upP_ne (by omega), zP_o (by omega), upP_ne (by omega), zP_o (by omega), upP_ne (by omega), zP_o (by omega), upP_ne (by omega), zP_o (by omega), upP_ne (by omega), zP_o (by omega), upP_ne (by omega), zP_o (by omega), upP_ne (by omega), zP_o (by omega), upP_ne (by omega), zP_o (by omega), upP_ne (by omega), zP_o (by omega), upP_ne (by omega), zP_o (by omega), upP_ne (by omega), zP_o (by omega), upP_ne (by omega), zP_o (by omega), upP_ne (by omega), zP_o (by omega), upP_ne (by omega), zP_o (by omega), upP_ne (by omega), zP_o (by omega), upP_ne (by omega), zP_o (by omega), upP_ne (by omega), zP_o (by omega), upP_ne (by omega), zP_o (by omega), upP_ne (by omega), zP_o (by omega), upP_ne (by omega), zP_o (by omega), upP_ne (by omega), zP_o (by omega), upP_ne (by omega), zP_o (by omega), upP_ne (by omega), zP_o (by omega), upP_ne (by omega), zP_o (by omega), upP_ne (by omega), zP_o (by omega)]
def mdQ (M : Mem) (P : PMem) : Option AV → Mem → PMem → Prop := fun r M' P' => r = none ∧ PB P' 77 ∧ (∀ a, a < 45 → ∀ b, M' a b = M a b) ∧ (∀ a, a < 45 → ∀ b, P' a b = P a b) ∧ GrM P' ∧ ∀ S', layTo (strN, 24) tsQ S' → MIv 0 M' P' ((strN, 0), S'.2)
theorem tsQ_wf : qWF tsQ := ⟨_, ToR_add (ToR_add (ToR_add (ToR_0 (M := fun _ _ => 0)) gk_1) gk_2) gk_3⟩
def mdI (M3 M4 : Mem) (g e : Nat) : Prop := (∀ b, b < g → M4 62 b = (b : Int) ∧ M4 60 b = bShl 1 (((b : Int) + 1) % 3)) ∧ (∀ b, b < e → M4 61 b = 1) ∧ ∀ a, a ≠ 60 → a ≠ 61 → a ≠ 62 → ∀ b, M4 a b = M3 a b
theorem md_R {M3 M4 : Mem} (h : mdI M3 M4 3 18) (h59 : ∀ b, M3 59 b = 0) (h45 : M3 45 23 = 3 ∧ M3 45 24 = 3 ∧ M3 45 25 = 0 ∧ M3 45 26 = 9 ∧ M3 45 27 = 1) : MsR M4 tsQ := by
  obtain ⟨h1, h2, h3⟩ := h
  obtain ⟨k1, k2, k3, k4, k5⟩ := h45
  have e45 : ∀ b, M4 45 b = M3 45 b := h3 45 (by omega) (by omega) (by omega)
  refine ⟨⟨by rw [e45, k1]; rfl, by rw [e45, k2]; rfl, by rw [e45, k3]; rfl, by rw [e45, k4]; rfl, by rw [e45, k5]; rfl⟩, tsQ_wf, fun g hg => ?_⟩
  have hg3 : g < 3 := hg
  refine ⟨?_, ?_, ?_, fun d hd => ?_⟩
  · rw [h3 59 (by omega) (by omega) (by omega), h59]
    rcases (show g = 0 ∨ g = 1 ∨ g = 2 by omega) with rfl | rfl | rfl <;> rfl
  · rw [(h1 g hg3).2]
    rcases (show g = 0 ∨ g = 1 ∨ g = 2 by omega) with rfl | rfl | rfl <;> decide
  · rw [(h1 g hg3).1]
    rcases (show g = 0 ∨ g = 1 ∨ g = 2 by omega) with rfl | rfl | rfl <;> decide
  · rw [h2 (6 * g + d) (by omega)]
    rcases (show g = 0 ∨ g = 1 ∨ g = 2 by omega) with rfl | rfl | rfl <;> rfl
set_option maxHeartbeats 4000000 in
set_option maxRecDepth 100000 in
theorem c_X10_init {l : Launch} {M : Mem} {P : PMem} (hz : ∀ b, M 45 b = 0) (hB : PB P 46) : CtA l yX10_init cX10_init 3 none 1 22 31 51744 46 77 [vR 45] M P (mdQ M P) := by
  refine CtA_of (own := RX10) (L := [vR 45, vX 1, vX 1]) (nm := 46) (by decide) rfl rfl (Nat.le_of_ble_eq_true rfl) (Nat.le_refl _) (fun X ad hl hnm hcl hsl hC hQ => ?_)
  refine G_al0 hC dX10_init_0 ?_
  refine G_obj hC oi_X10_1 rfl (by decide) (Nat.le_of_ble_eq_true rfl) dX10_init_1 ?_
  refine G_al0 hC dX10_init_4 ?_
  refine G_bipush hC dX10_init_5 (by decide) ?_
  refine G_newI hC aw_int rfl rfl hB (by omega) (by omega) (by simp [rO2] <;> omega) (by simp [rO2] <;> omega) dX10_init_7 (fun ad1 ha1 hC1 => ?_)
  have hB1 := PB_z hB
  refine G_putFR hC1 hnm fl_X10_7 (fun _ _ _ h => by cases h; rfl) rfl (by dsimp only [yn]; omega) (fun _ => rfl) (fun _ => rfl) dX10_init_9 ?_
  have hB202 := PB_up (k := 45) (j := 5) (q := (46)) hB1 (by omega)
  refine G_al0 hC1 dX10_init_12 ?_
  refine G_bipush hC1 dX10_init_13 (by decide) ?_
  refine G_newI hC1 aw_int rfl rfl hB202 (by omega) (by omega) (by simp [rO2] <;> omega) (by simp [rO2] <;> omega) dX10_init_15 (fun ad3 ha3 hC3 => ?_)
  have hB3 := PB_z hB202
  refine G_putFR hC3 hnm fl_X10_13 (fun _ _ _ h => by cases h; rfl) rfl (by dsimp only [yn]; omega) (fun _ => rfl) (fun _ => rfl) dX10_init_17 ?_
  have hB204 := PB_up (k := 45) (j := 6) (q := (47)) hB3 (by omega)
  refine G_al0 hC3 dX10_init_20 ?_
  refine G_bipush hC3 dX10_init_21 (by decide) ?_
  refine G_newI hC3 aw_int rfl rfl hB204 (by omega) (by omega) (by simp [rO2] <;> omega) (by simp [rO2] <;> omega) dX10_init_23 (fun ad5 ha5 hC5 => ?_)
  have hB5 := PB_z hB204
  refine G_putFR hC5 hnm fl_X10_16 (fun _ _ _ h => by cases h; rfl) rfl (by dsimp only [yn]; omega) (fun _ => rfl) (fun _ => rfl) dX10_init_25 ?_
  have hB206 := PB_up (k := 45) (j := 7) (q := (48)) hB5 (by omega)
  refine G_al0 hC5 dX10_init_28 ?_
  refine G_bipush hC5 dX10_init_29 (by decide) ?_
  refine G_newI hC5 aw_int rfl rfl hB206 (by omega) (by omega) (by simp [rO2] <;> omega) (by simp [rO2] <;> omega) dX10_init_31 (fun ad7 ha7 hC7 => ?_)
  have hB7 := PB_z hB206
  refine G_putFR hC7 hnm fl_X10_19 (fun _ _ _ h => by cases h; rfl) rfl (by dsimp only [yn]; omega) (fun _ => rfl) (fun _ => rfl) dX10_init_33 ?_
  have hB208 := PB_up (k := 45) (j := 8) (q := (49)) hB7 (by omega)
  refine G_al0 hC7 dX10_init_36 ?_
  refine G_bipush hC7 dX10_init_37 (by decide) ?_
  refine G_newI hC7 aw_int rfl rfl hB208 (by omega) (by omega) (by simp [rO2] <;> omega) (by simp [rO2] <;> omega) dX10_init_39 (fun ad9 ha9 hC9 => ?_)
  have hB9 := PB_z hB208
  refine G_putFR hC9 hnm fl_X10_22 (fun _ _ _ h => by cases h; rfl) rfl (by dsimp only [yn]; omega) (fun _ => rfl) (fun _ => rfl) dX10_init_41 ?_
  have hB210 := PB_up (k := 45) (j := 9) (q := (50)) hB9 (by omega)
  refine G_al0 hC9 dX10_init_44 ?_
  refine G_bipush hC9 dX10_init_45 (by decide) ?_
  refine G_newI hC9 aw_int rfl rfl hB210 (by omega) (by omega) (by simp [rO2] <;> omega) (by simp [rO2] <;> omega) dX10_init_47 (fun ad11 ha11 hC11 => ?_)
  have hB11 := PB_z hB210
  refine G_putFR hC11 hnm fl_X10_25 (fun _ _ _ h => by cases h; rfl) rfl (by dsimp only [yn]; omega) (fun _ => rfl) (fun _ => rfl) dX10_init_49 ?_
  have hB212 := PB_up (k := 45) (j := 10) (q := (51)) hB11 (by omega)
  refine G_al0 hC11 dX10_init_52 ?_
  refine G_bipush hC11 dX10_init_53 (by decide) ?_
  refine G_newI hC11 aw_int rfl rfl hB212 (by omega) (by omega) (by simp [rO2] <;> omega) (by simp [rO2] <;> omega) dX10_init_55 (fun ad13 ha13 hC13 => ?_)
  have hB13 := PB_z hB212
  refine G_putFR hC13 hnm fl_X10_28 (fun _ _ _ h => by cases h; rfl) rfl (by dsimp only [yn]; omega) (fun _ => rfl) (fun _ => rfl) dX10_init_57 ?_
  have hB214 := PB_up (k := 45) (j := 13) (q := (52)) hB13 (by omega)
  refine G_al0 hC13 dX10_init_60 ?_
  refine G_bipush hC13 dX10_init_61 (by decide) ?_
  refine G_newI hC13 aw_int rfl rfl hB214 (by omega) (by omega) (by simp [rO2] <;> omega) (by simp [rO2] <;> omega) dX10_init_63 (fun ad15 ha15 hC15 => ?_)
  have hB15 := PB_z hB214
  refine G_putFR hC15 hnm fl_X10_31 (fun _ _ _ h => by cases h; rfl) rfl (by dsimp only [yn]; omega) (fun _ => rfl) (fun _ => rfl) dX10_init_65 ?_
  have hB216 := PB_up (k := 45) (j := 14) (q := (53)) hB15 (by omega)
  refine G_al0 hC15 dX10_init_68 ?_
  refine G_bipush hC15 dX10_init_69 (by decide) ?_
  refine G_newI hC15 aw_int rfl rfl hB216 (by omega) (by omega) (by simp [rO2] <;> omega) (by simp [rO2] <;> omega) dX10_init_71 (fun ad17 ha17 hC17 => ?_)
  have hB17 := PB_z hB216
  refine G_putFR hC17 hnm fl_X10_34 (fun _ _ _ h => by cases h; rfl) rfl (by dsimp only [yn]; omega) (fun _ => rfl) (fun _ => rfl) dX10_init_73 ?_
  have hB218 := PB_up (k := 45) (j := 15) (q := (54)) hB17 (by omega)
  refine G_al0 hC17 dX10_init_76 ?_
  refine G_bipush hC17 dX10_init_77 (by decide) ?_
  refine G_newI hC17 aw_int rfl rfl hB218 (by omega) (by omega) (by simp [rO2] <;> omega) (by simp [rO2] <;> omega) dX10_init_79 (fun ad19 ha19 hC19 => ?_)
  have hB19 := PB_z hB218
  refine G_putFR hC19 hnm fl_X10_37 (fun _ _ _ h => by cases h; rfl) rfl (by dsimp only [yn]; omega) (fun _ => rfl) (fun _ => rfl) dX10_init_81 ?_
  have hB220 := PB_up (k := 45) (j := 17) (q := (55)) hB19 (by omega)
  refine G_al0 hC19 dX10_init_84 ?_
  refine G_bipush hC19 dX10_init_85 (by decide) ?_
  refine G_newI hC19 aw_int rfl rfl hB220 (by omega) (by omega) (by simp [rO2] <;> omega) (by simp [rO2] <;> omega) dX10_init_87 (fun ad21 ha21 hC21 => ?_)
  have hB21 := PB_z hB220
  refine G_putFR hC21 hnm fl_X10_40 (fun _ _ _ h => by cases h; rfl) rfl (by dsimp only [yn]; omega) (fun _ => rfl) (fun _ => rfl) dX10_init_89 ?_
  have hB222 := PB_up (k := 45) (j := 18) (q := (56)) hB21 (by omega)
  refine G_al0 hC21 dX10_init_92 ?_
  refine G_iconst hC21 dX10_init_93 ?_
  refine G_newI hC21 aw_int rfl rfl hB222 (by omega) (by omega) (by simp [rO2] <;> omega) (by simp [rO2] <;> omega) dX10_init_94 (fun ad23 ha23 hC23 => ?_)
  have hB23 := PB_z hB222
  refine G_putFR hC23 hnm fl_X10_43 (fun _ _ _ h => by cases h; rfl) rfl (by dsimp only [yn]; omega) (fun _ => rfl) (fun _ => rfl) dX10_init_96 ?_
  have hB224 := PB_up (k := 45) (j := 19) (q := (57)) hB23 (by omega)
  refine G_al0 hC23 dX10_init_99 ?_
  refine G_sipush hC23 dX10_init_100 (by decide) ?_
  refine G_newI hC23 aw_int rfl rfl hB224 (by omega) (by omega) (by simp [rO2] <;> omega) (by simp [rO2] <;> omega) dX10_init_103 (fun ad25 ha25 hC25 => ?_)
  have hB25 := PB_z hB224
  refine G_putFR hC25 hnm fl_X10_46 (fun _ _ _ h => by cases h; rfl) rfl (by dsimp only [yn]; omega) (fun _ => rfl) (fun _ => rfl) dX10_init_105 ?_
  have hB226 := PB_up (k := 45) (j := 20) (q := (58)) hB25 (by omega)
  refine G_al0 hC25 dX10_init_108 ?_
  refine G_bipush hC25 dX10_init_109 (by decide) ?_
  refine G_newI hC25 aw_int rfl rfl hB226 (by omega) (by omega) (by simp [rO2] <;> omega) (by simp [rO2] <;> omega) dX10_init_111 (fun ad27 ha27 hC27 => ?_)
  have hB27 := PB_z hB226
  refine G_putFR hC27 hnm fl_X10_49 (fun _ _ _ h => by cases h; rfl) rfl (by dsimp only [yn]; omega) (fun _ => rfl) (fun _ => rfl) dX10_init_113 ?_
  have hB228 := PB_up (k := 45) (j := 28) (q := (59)) hB27 (by omega)
  refine G_al0 hC27 dX10_init_116 ?_
  refine G_bipush hC27 dX10_init_117 (by decide) ?_
  refine G_newI hC27 aw_int rfl rfl hB228 (by omega) (by omega) (by simp [rO2] <;> omega) (by simp [rO2] <;> omega) dX10_init_119 (fun ad29 ha29 hC29 => ?_)
  have hB29 := PB_z hB228
  refine G_putFR hC29 hnm fl_X10_52 (fun _ _ _ h => by cases h; rfl) rfl (by dsimp only [yn]; omega) (fun _ => rfl) (fun _ => rfl) dX10_init_121 ?_
  have hB230 := PB_up (k := 45) (j := 29) (q := (60)) hB29 (by omega)
  refine G_al0 hC29 dX10_init_124 ?_
  refine G_bipush hC29 dX10_init_125 (by decide) ?_
  refine G_newI hC29 aw_int rfl rfl hB230 (by omega) (by omega) (by simp [rO2] <;> omega) (by simp [rO2] <;> omega) dX10_init_127 (fun ad31 ha31 hC31 => ?_)
  have hB31 := PB_z hB230
  refine G_putFR hC31 hnm fl_X10_55 (fun _ _ _ h => by cases h; rfl) rfl (by dsimp only [yn]; omega) (fun _ => rfl) (fun _ => rfl) dX10_init_129 ?_
  have hB232 := PB_up (k := 45) (j := 30) (q := (61)) hB31 (by omega)
  refine G_al0 hC31 dX10_init_132 ?_
  refine G_bipush hC31 dX10_init_133 (by decide) ?_
  refine G_newI hC31 aw_int rfl rfl hB232 (by omega) (by omega) (by simp [rO2] <;> omega) (by simp [rO2] <;> omega) dX10_init_135 (fun ad33 ha33 hC33 => ?_)
  have hB33 := PB_z hB232
  refine G_putFR hC33 hnm fl_X10_58 (fun _ _ _ h => by cases h; rfl) rfl (by dsimp only [yn]; omega) (fun _ => rfl) (fun _ => rfl) dX10_init_137 ?_
  have hB234 := PB_up (k := 45) (j := 31) (q := (62)) hB33 (by omega)
  refine G_al0 hC33 dX10_init_140 ?_
  refine G_bipush hC33 dX10_init_141 (by decide) ?_
  refine G_newI hC33 aw_int rfl rfl hB234 (by omega) (by omega) (by simp [rO2] <;> omega) (by simp [rO2] <;> omega) dX10_init_143 (fun ad35 ha35 hC35 => ?_)
  have hB35 := PB_z hB234
  refine G_putFR hC35 hnm fl_X10_61 (fun _ _ _ h => by cases h; rfl) rfl (by dsimp only [yn]; omega) (fun _ => rfl) (fun _ => rfl) dX10_init_145 ?_
  have hB236 := PB_up (k := 45) (j := 32) (q := (63)) hB35 (by omega)
  refine G_al0 hC35 dX10_init_148 ?_
  refine G_bipush hC35 dX10_init_149 (by decide) ?_
  refine G_newI hC35 aw_int rfl rfl hB236 (by omega) (by omega) (by simp [rO2] <;> omega) (by simp [rO2] <;> omega) dX10_init_151 (fun ad37 ha37 hC37 => ?_)
  have hB37 := PB_z hB236
  refine G_putFR hC37 hnm fl_X10_64 (fun _ _ _ h => by cases h; rfl) rfl (by dsimp only [yn]; omega) (fun _ => rfl) (fun _ => rfl) dX10_init_153 ?_
  have hB238 := PB_up (k := 45) (j := 33) (q := (64)) hB37 (by omega)
  refine G_al0 hC37 dX10_init_156 ?_
  refine G_bipush hC37 dX10_init_157 (by decide) ?_
  refine G_newI hC37 aw_int rfl rfl hB238 (by omega) (by omega) (by simp [rO2] <;> omega) (by simp [rO2] <;> omega) dX10_init_159 (fun ad39 ha39 hC39 => ?_)
  have hB39 := PB_z hB238
  refine G_putFR hC39 hnm fl_X10_67 (fun _ _ _ h => by cases h; rfl) rfl (by dsimp only [yn]; omega) (fun _ => rfl) (fun _ => rfl) dX10_init_161 ?_
  have hB240 := PB_up (k := 45) (j := 34) (q := (65)) hB39 (by omega)
  refine G_al0 hC39 dX10_init_164 ?_
  refine G_bipush hC39 dX10_init_165 (by decide) ?_
  refine G_newI hC39 aw_int rfl rfl hB240 (by omega) (by omega) (by simp [rO2] <;> omega) (by simp [rO2] <;> omega) dX10_init_167 (fun ad41 ha41 hC41 => ?_)
  have hB41 := PB_z hB240
  refine G_putFR hC41 hnm fl_X10_70 (fun _ _ _ h => by cases h; rfl) rfl (by dsimp only [yn]; omega) (fun _ => rfl) (fun _ => rfl) dX10_init_169 ?_
  have hB242 := PB_up (k := 45) (j := 35) (q := (66)) hB41 (by omega)
  refine G_al0 hC41 dX10_init_172 ?_
  refine G_ldc (z := 46656) hC41 kc_X10_73 (by decide) dX10_init_173 ?_
  refine G_newI hC41 aw_int rfl rfl hB242 (by omega) (by omega) (by simp [rO2] <;> omega) (by simp [rO2] <;> omega) dX10_init_175 (fun ad43 ha43 hC43 => ?_)
  have hB43 := PB_z hB242
  refine G_putFR hC43 hnm fl_X10_74 (fun _ _ _ h => by cases h; rfl) rfl (by dsimp only [yn]; omega) (fun _ => rfl) (fun _ => rfl) dX10_init_177 ?_
  have hB244 := PB_up (k := 45) (j := 36) (q := (67)) hB43 (by omega)
  refine G_al0 hC43 dX10_init_180 ?_
  refine G_sipush hC43 dX10_init_181 (by decide) ?_
  refine G_newI hC43 aw_int rfl rfl hB244 (by omega) (by omega) (by simp [rO2] <;> omega) (by simp [rO2] <;> omega) dX10_init_184 (fun ad45 ha45 hC45 => ?_)
  have hB45 := PB_z hB244
  refine G_putFR hC45 hnm fl_X10_77 (fun _ _ _ h => by cases h; rfl) rfl (by dsimp only [yn]; omega) (fun _ => rfl) (fun _ => rfl) dX10_init_186 ?_
  have hB246 := PB_up (k := 45) (j := 38) (q := (68)) hB45 (by omega)
  refine G_al0 hC45 dX10_init_189 ?_
  refine G_sipush hC45 dX10_init_190 (by decide) ?_
  refine G_newI hC45 aw_int rfl rfl hB246 (by omega) (by omega) (by simp [rO2] <;> omega) (by simp [rO2] <;> omega) dX10_init_193 (fun ad47 ha47 hC47 => ?_)
  have hB47 := PB_z hB246
  refine G_putFR hC47 hnm fl_X10_80 (fun _ _ _ h => by cases h; rfl) rfl (by dsimp only [yn]; omega) (fun _ => rfl) (fun _ => rfl) dX10_init_195 ?_
  have hB248 := PB_up (k := 45) (j := 39) (q := (69)) hB47 (by omega)
  refine G_al0 hC47 dX10_init_198 ?_
  refine G_sipush hC47 dX10_init_199 (by decide) ?_
  refine G_newI hC47 aw_int rfl rfl hB248 (by omega) (by omega) (by simp [rO2] <;> omega) (by simp [rO2] <;> omega) dX10_init_202 (fun ad49 ha49 hC49 => ?_)
  have hB49 := PB_z hB248
  refine G_putFR hC49 hnm fl_X10_83 (fun _ _ _ h => by cases h; rfl) rfl (by dsimp only [yn]; omega) (fun _ => rfl) (fun _ => rfl) dX10_init_204 ?_
  have hB250 := PB_up (k := 45) (j := 40) (q := (70)) hB49 (by omega)
  refine G_al0 hC49 dX10_init_207 ?_
  refine G_bipush hC49 dX10_init_208 (by decide) ?_
  refine G_newZ hC49 aw_boolean rfl rfl hB250 (by omega) (by omega) (by simp [rO2] <;> omega) (by simp [rO2] <;> omega) dX10_init_210 (fun ad51 ha51 hC51 => ?_)
  have hB51 := PB_z hB250
  refine G_putFR hC51 hnm fl_X10_86 (fun _ _ _ h => by cases h; rfl) rfl (by dsimp only [yn]; omega) (fun _ => rfl) (fun _ => rfl) dX10_init_212 ?_
  have hB252 := PB_up (k := 45) (j := 43) (q := (71)) hB51 (by omega)
  refine G_al0 hC51 dX10_init_215 ?_
  refine G_sipush hC51 dX10_init_216 (by decide) ?_
  refine G_newZ hC51 aw_boolean rfl rfl hB252 (by omega) (by omega) (by simp [rO2] <;> omega) (by simp [rO2] <;> omega) dX10_init_219 (fun ad53 ha53 hC53 => ?_)
  have hB53 := PB_z hB252
  refine G_putFR hC53 hnm fl_X10_90 (fun _ _ _ h => by cases h; rfl) rfl (by dsimp only [yn]; omega) (fun _ => rfl) (fun _ => rfl) dX10_init_221 ?_
  have hB254 := PB_up (k := 45) (j := 44) (q := (72)) hB53 (by omega)
  refine G_al0 hC53 dX10_init_224 ?_
  refine G_bipush hC53 dX10_init_225 (by decide) ?_
  refine G_newI hC53 aw_int rfl rfl hB254 (by omega) (by omega) (by simp [rO2] <;> omega) (by simp [rO2] <;> omega) dX10_init_227 (fun ad55 ha55 hC55 => ?_)
  have hB55 := PB_z hB254
  refine G_putFR hC55 hnm fl_X10_93 (fun _ _ _ h => by cases h; rfl) rfl (by dsimp only [yn]; omega) (fun _ => rfl) (fun _ => rfl) dX10_init_229 ?_
  have hB256 := PB_up (k := 45) (j := 45) (q := (73)) hB55 (by omega)
  refine G_al0 hC55 dX10_init_232 ?_
  refine G_bipush hC55 dX10_init_233 (by decide) ?_
  refine G_newI hC55 aw_int rfl rfl hB256 (by omega) (by omega) (by simp [rO2] <;> omega) (by simp [rO2] <;> omega) dX10_init_235 (fun ad57 ha57 hC57 => ?_)
  have hB57 := PB_z hB256
  refine G_putFR hC57 hnm fl_X10_96 (fun _ _ _ h => by cases h; rfl) rfl (by dsimp only [yn]; omega) (fun _ => rfl) (fun _ => rfl) dX10_init_237 ?_
  have hB258 := PB_up (k := 45) (j := 46) (q := (74)) hB57 (by omega)
  refine G_al0 hC57 dX10_init_240 ?_
  refine G_sipush hC57 dX10_init_241 (by decide) ?_
  refine G_newJ hC57 aw_long rfl rfl hB258 (by omega) (by omega) (by simp [rO2] <;> omega) (by simp [rO2] <;> omega) dX10_init_244 (fun ad59 ha59 hC59 => ?_)
  have hB59 := PB_z hB258
  refine G_putFR hC59 hnm fl_X10_99 (fun _ _ _ h => by cases h; rfl) rfl (by dsimp only [yn]; omega) (fun _ => rfl) (fun _ => rfl) dX10_init_246 ?_
  have hB260 := PB_up (k := 45) (j := 47) (q := (75)) hB59 (by omega)
  refine G_al0 hC59 dX10_init_249 ?_
  refine G_sipush hC59 dX10_init_250 (by decide) ?_
  refine G_newJ hC59 aw_long rfl rfl hB260 (by omega) (by omega) (by simp [rO2] <;> omega) (by simp [rO2] <;> omega) dX10_init_253 (fun ad61 ha61 hC61 => ?_)
  have hB61 := PB_z hB260
  refine G_putFR hC61 hnm fl_X10_103 (fun _ _ _ h => by cases h; rfl) rfl (by dsimp only [yn]; omega) (fun _ => rfl) (fun _ => rfl) dX10_init_255 ?_
  have hB262 := PB_up (k := 45) (j := 48) (q := (76)) hB61 (by omega)
  have hpM := mdl_M (M := M)
  have hpP := mdl_P (P := P)
  have hpB : PB (iP_mdl P) 77 := hB262
  have hC : OK X (ad61, 77, 31, 51744) cX10_init RX10 3 none 1 22 77 := hC61
  change G X (ad61, 77, 31, 51744) 258 [vR 45, vX 1, vX 1] [] (iM_mdl M) (iP_mdl P)
  generalize iM_mdl M = Ma at hpM ⊢
  generalize iP_mdl P = Pa at hpP hpB ⊢
  obtain ⟨hGr, hPo⟩ := hpP
  obtain ⟨a59, a67, aO⟩ := hpM
  obtain ⟨Mb, hMb⟩ : ∃ Mb, Mb = upM (bgM Ma) 45 23 3 := ⟨_, rfl⟩
  have b59 : ∀ b, Mb 59 b = 0 := fun b => by rw [hMb, upM_ne (by omega)]; unfold bgM; rw [upM_ne (by omega), upM_ne (by omega), upM_ne (by omega), upM_ne (by omega), upM_ne (by omega), upM_ne (by omega)]; exact a59 b
  have bO : ∀ a, a ≠ 45 → ∀ b, Mb a b = Ma a b := fun a ha b => by rw [hMb, upM_ne ha]; unfold bgM; rw [upM_ne ha, upM_ne ha, upM_ne ha, upM_ne ha, upM_ne ha, upM_ne ha]
  have b45 : Mb 45 23 = 3 ∧ Mb 45 24 = 3 ∧ Mb 45 25 = 0 ∧ Mb 45 26 = 9 ∧ Mb 45 27 = 1 := by rw [hMb]; exact ⟨rfl, rfl, rfl, rfl, rfl⟩
  have b45o : Mb 45 21 = 0 ∧ Mb 45 37 = 0 := by
    rw [hMb]
    refine ⟨?_, ?_⟩
    · show Ma 45 21 = 0; rw [aO 45 (by omega)]; exact hz 21
    · show Ma 45 37 = 0; rw [aO 45 (by omega)]; exact hz 37
  have hlG : ∀ (c g : Nat) (gv : Int) (x2 : AV) (Mc : Mem), g + c = 3 → gv = (g : Int) → mdI Mb Mc g (6 * g) → G X (ad61, 77, 31, 51744) 269 [vR 45, vI gv, x2] [] Mc Pa := by
    intro c
    induction c with
    | zero =>
      intro g gv x2 Mc hgc e1 hI
      subst e1
      have hg3 : g = 3 := by omega
      subst hg3
      have hR := md_R hI b59 b45
      have hm0 : qMk 0 Mc := by
        have e37 : Mc 45 37 = 0 := by rw [hI.2.2 45 (by omega) (by omega) (by omega)]; exact b45o.2
        refine ⟨by rw [e37]; omega, by rw [e37]; omega, fun k hk => ?_⟩
        rw [e37, hI.2.2 67 (by omega) (by omega) (by omega), bO 67 (by omega), a67]
        omega
      have e21 : Mc 45 21 = (((strN, 0) : (Nat → Nat) × Nat).2 : Int) := by rw [hI.2.2 45 (by omega) (by omega) (by omega)]; exact b45o.1
      refine G_il1 hC dX10_init_269 ?_
      refine G_iconst hC dX10_init_270 ?_
      refine G_icmp_ge (tgt := 326) hC dX10_init_271 (by decide) (by omega) (by omega) (fun c271 => ?_) (fun c271 => ?_)
      · refine G_al0 hC dX10_init_326 ?_
        refine G_callVV hC (c_X10_lays (n := qn tsQ) (r := ((qr tsQ : Nat) : Int)) hGr hR.1.1 (by decide) hR.1.2.2.1 (Or.inl rfl) (fun g hg => by have hg3 : g < 3 := hg; rw [(hI.1 g hg3).1]; omega)) mv_X10_113 (by first | assumption | rfl) (by omega) (by decide) rfl (by decide) dX10_init_327 rfl (Nat.le_of_ble_eq_true rfl) rfl (fun M327 P327 h327 => ?_)
        obtain ⟨hPe, Mx, q4, hMx⟩ := h327
        subst hPe
        subst hMx
        obtain ⟨k1, k2, k3⟩ := lay_M (c := 0) (x := (strN, 0)) hGr (fun k hk => absurd hk (Nat.not_lt_zero _)) e21 hm0 hR q4
        exact G_vret hC hQ dX10_init_330 ⟨rfl, hpB, fun a ha b => by
        rw [k2 a (by unfold mdX; omega), hI.2.2 a (by omega) (by omega) (by omega), bO a (by omega), aO a (by omega)], hPo, hGr, fun S' hS' => k1 ((strN, 0), S'.2) ⟨rfl, hS'.2⟩⟩
      · exact absurd c271 (by omega)
    | succ c ih =>
      intro g gv x2 Mc hgc e1 hI
      subst e1
      have hin : ∀ (c2 d : Nat) (dv : Int) (Mc : Mem), d + c2 = 6 → dv = (d : Int) → mdI Mb Mc (g + 1) (6 * g + d) → G X (ad61, 77, 31, 51744) 296 [vR 45, vI g, vI dv] [] Mc Pa := by
        intro c2
        induction c2 with
        | zero =>
          intro d dv Mc hdc f1 hI2
          subst f1
          have hd6 : d = 6 := by omega
          subst hd6
          refine G_il2 hC dX10_init_296 ?_
          refine G_bipush hC dX10_init_297 (by decide) ?_
          refine G_icmp_ge (tgt := 320) hC dX10_init_299 (by decide) (by omega) (by omega) (fun c299 => ?_) (fun c299 => ?_)
          · refine G_inc1 hC dX10_init_320 rfl ?_
            refine G_goto (tgt := 269) hC dX10_init_323 (by decide) ?_
            exact ih (g + 1) _ _ _ (by omega) (by omega) hI2
          · exact absurd c299 (by omega)
        | succ c2 ih2 =>
          intro d dv Mc hdc f1 hI2
          subst f1
          refine G_il2 hC dX10_init_296 ?_
          refine G_bipush hC dX10_init_297 (by decide) ?_
          refine G_icmp_ge (tgt := 320) hC dX10_init_299 (by decide) (by omega) (by omega) (fun c299 => ?_) (fun c299 => ?_)
          · exact absurd c299 (by omega)
          · refine G_al0 hC dX10_init_302 ?_
            refine G_getR hC fl_X10_55 (by first | assumption | rfl) (by omega) (by first | assumption | exact hGr _ _ rfl) dX10_init_303 ?_
            refine G_bipush hC dX10_init_306 (by decide) ?_
            refine G_il1 hC dX10_init_308 ?_
            refine G_imul hC dX10_init_309 ?_
            refine G_il2 hC dX10_init_310 ?_
            refine G_iadd hC dX10_init_311 ?_
            refine G_iconst hC dX10_init_312 ?_
            refine G_iastoreN (n := 6 * g + d) hC (by first | assumption | rfl) (by omega) (by omega) (by omega) dX10_init_313 ?_
            refine G_inc2 hC dX10_init_314 rfl ?_
            refine G_goto (tgt := 296) hC dX10_init_317 (by decide) ?_
            exact ih2 (d + 1) _ _ (by omega) (by omega) ⟨fun b hb => by rw [upM_ne (by omega), upM_ne (by omega)]; exact hI2.1 b hb, fun b hb => by
                by_cases z : b = 6 * g + d
                · rw [z, upM_self]
                · rw [upM_nej z]; exact hI2.2.1 b (by omega), fun a h1 h2 h3 b => by rw [upM_ne h2]; exact hI2.2.2 a h1 h2 h3 b⟩
      refine G_il1 hC dX10_init_269 ?_
      refine G_iconst hC dX10_init_270 ?_
      refine G_icmp_ge (tgt := 326) hC dX10_init_271 (by decide) (by omega) (by omega) (fun c271 => ?_) (fun c271 => ?_)
      · exact absurd c271 (by omega)
      · refine G_al0 hC dX10_init_274 ?_
        refine G_getR hC fl_X10_58 (by first | assumption | rfl) (by omega) (by first | assumption | exact hGr _ _ rfl) dX10_init_275 ?_
        refine G_il1 hC dX10_init_278 ?_
        refine G_il1 hC dX10_init_279 ?_
        refine G_iastoreN (n := g) hC (by first | assumption | rfl) (by omega) (by omega) (by omega) dX10_init_280 ?_
        refine G_al0 hC dX10_init_281 ?_
        refine G_getR hC fl_X10_52 (by first | assumption | rfl) (by omega) (by first | assumption | exact hGr _ _ rfl) dX10_init_282 ?_
        refine G_il1 hC dX10_init_285 ?_
        refine G_iconst hC dX10_init_286 ?_
        refine G_il1 hC dX10_init_287 ?_
        refine G_iconst hC dX10_init_288 ?_
        refine G_iadd hC dX10_init_289 ?_
        refine G_iconst hC dX10_init_290 ?_
        refine G_irem hC dX10_init_291 (by omega) (by omega) ?_
        refine G_ishl hC dX10_init_292 ?_
        refine G_iastoreN (n := g) hC (by first | assumption | rfl) (by omega) (by omega) (by omega) dX10_init_293 ?_
        refine G_iconst hC dX10_init_294 ?_
        refine G_is2 hC dX10_init_295 rfl ?_
        exact hin 6 0 _ _ (by omega) rfl ⟨fun b hb => by
            by_cases z : b = g
            · rw [z]; exact ⟨by rw [upM_ne (by omega), upM_self], by rw [upM_self]⟩
            · refine ⟨?_, ?_⟩
              · rw [upM_ne (by omega), upM_nej z]; exact (hI.1 b (by omega)).1
              · rw [upM_nej z, upM_ne (by omega)]; exact (hI.1 b (by omega)).2, fun b hb => by rw [upM_ne (by omega), upM_ne (by omega)]; exact hI.2.1 b (by omega), fun a h1 h2 h3 b => by rw [upM_ne h1, upM_ne h3]; exact hI.2.2 a h1 h2 h3 b⟩
  refine G_al0 hC dX10_init_258 ?_
  refine G_callVV hC (c_X10_begins hGr) mv_X10_106 (by first | assumption | rfl) (by omega) (by decide) rfl (by decide) dX10_init_259 rfl (Nat.le_of_ble_eq_true rfl) rfl (fun M259 P259 h259 => ?_)
  obtain ⟨hMe, hPe⟩ := h259
  subst hMe
  subst hPe
  refine G_al0 hC dX10_init_262 ?_
  refine G_iconst hC dX10_init_263 ?_
  refine G_putI hC fl_X10_109 (by first | assumption | rfl) (by omega) dX10_init_264 ?_
  refine G_iconst hC dX10_init_267 ?_
  refine G_is1 hC dX10_init_268 rfl ?_
  rw [← hMb]
  exact hlG 3 0 _ _ _ (by omega) rfl ⟨fun b hb => by omega, fun b hb => by omega, fun a _ _ _ b => rfl⟩
