/-! constructors -/
def initQ (M1 : Mem) (P1 : PMem) (n' : Nat) : Option AV → Mem → PMem → Prop := fun r M' P' => r = none ∧ M' = M1 ∧ P' = P1 ∧ PB P' n'
theorem G_callIB {X : CX} {cc : ByteArray} {own : String} {nL : Nat} {rt : Option FieldType} {fr lo nm : Nat} {pc : Nat} {L st : List AV} {M : Mem} {P : PMem} {Q : Option AV → Mem → PMem → Prop} {ad : Nat → Nat} {n c s : Nat} {stk : List AV} {y : MethodName} {cc' : ByteArray} {nL' : Nat} {fr' lo' mc ms n' b na idx : Nat} {as : List AV} (hC : OK X (ad, n, c, s) cc own nL rt fr lo nm) (hct : CtA (xl X) y cc' nL' none fr' lo' mc ms n n' (vR b :: as) M P Q) (hm : MI own idx y cc' nL' na) (ha : as.length = na) (hR : fr' + 1 ≤ fr ∧ 8 + (nL' + 11) + lo' ≤ lo) (hst : c2s st ≤ 8) (hc : c + mc ≤ (xR X).cells) (hsl : s + ms ≤ (xR X).slots) (hn : n ≤ n') (hln : L.length = nL) (hrl : L.all (rO2 n n') = true) (hrs : st.all (rO2 n n') = true) (hQ : ∀ r M' P', Q r M' P' → r = none ∧ PB P' n') (d : decode cc pc = .ok (.invokespecial idx, 3)) (hk : stk = as.reverse ++ vR b :: st)
    (kk : ∀ ad' M' P', Q none M' P' → (∀ k, k < n ∨ n' ≤ k → ad' k = ad k) → OK X (ad', n', c + mc, s + ms) cc own nL rt fr lo n' → G X (ad', n', c + mc, s + ms) (pc + 3) L st M' P') : G X (ad, n, c, s) pc L stk M P :=
  G_callIA (Y := (ad, n, c, s)) hC hct hm ha hR hst hc hsl hn hln hrl hrs hQ d hk kk
theorem aw_int : Cond.arrayClass .int ∈ lwG := (lwG_in (List.mem_of_getElem? (i := 147) (by decide +kernel)) (by decide +kernel))
theorem aw_long : Cond.arrayClass .long ∈ lwG := (lwG_in (List.mem_of_getElem? (i := 213) (by decide +kernel)) (by decide +kernel))
theorem aw_boolean : Cond.arrayClass .boolean ∈ lwG := (lwG_in (List.mem_of_getElem? (i := 1085) (by decide +kernel)) (by decide +kernel))
theorem nw_X9_13 : NW RX9 13 7 RX7 TX7 9 tyX7 := ⟨clX7, (lwG_in (List.mem_of_getElem? (i := 97) (by decide +kernel)) (by decide +kernel)), (lwG_in (List.mem_of_getElem? (i := 98) (by decide +kernel)) (by decide +kernel)), (lwG_in (List.mem_of_getElem? (i := 72) (by decide +kernel)) (by decide +kernel)), by decide +kernel⟩
theorem nw_X9_20 : NW RX9 20 4 RX4 TX4 5 tyX4 := ⟨clX4, (lwG_in (List.mem_of_getElem? (i := 148) (by decide +kernel)) (by decide +kernel)), (lwG_in (List.mem_of_getElem? (i := 149) (by decide +kernel)) (by decide +kernel)), (lwG_in (List.mem_of_getElem? (i := 73) (by decide +kernel)) (by decide +kernel)), by decide +kernel⟩
theorem nw_X9_32 : NW RX9 32 0 RX0 TX0 3 tyX0 := ⟨clX0, (lwG_in (List.mem_of_getElem? (i := 170) (by decide +kernel)) (by decide +kernel)), (lwG_in (List.mem_of_getElem? (i := 171) (by decide +kernel)) (by decide +kernel)), (lwG_in (List.mem_of_getElem? (i := 74) (by decide +kernel)) (by decide +kernel)), by decide +kernel⟩
theorem nw_X9_39 : NW RX9 39 3 RX3 TX3 3 tyX3 := ⟨clX3, (lwG_in (List.mem_of_getElem? (i := 189) (by decide +kernel)) (by decide +kernel)), (lwG_in (List.mem_of_getElem? (i := 190) (by decide +kernel)) (by decide +kernel)), (lwG_in (List.mem_of_getElem? (i := 75) (by decide +kernel)) (by decide +kernel)), by decide +kernel⟩
theorem nw_X9_48 : NW RX9 48 5 RX5 TX5 7 tyX5 := ⟨clX5, (lwG_in (List.mem_of_getElem? (i := 214) (by decide +kernel)) (by decide +kernel)), (lwG_in (List.mem_of_getElem? (i := 215) (by decide +kernel)) (by decide +kernel)), (lwG_in (List.mem_of_getElem? (i := 77) (by decide +kernel)) (by decide +kernel)), by decide +kernel⟩
theorem nw_X9_57 : NW RX9 57 6 RX6 TX6 4 tyX6 := ⟨clX6, (lwG_in (List.mem_of_getElem? (i := 244) (by decide +kernel)) (by decide +kernel)), (lwG_in (List.mem_of_getElem? (i := 245) (by decide +kernel)) (by decide +kernel)), (lwG_in (List.mem_of_getElem? (i := 78) (by decide +kernel)) (by decide +kernel)), by decide +kernel⟩
theorem nw_X9_64 : NW RX9 64 8 RX8 TX8 9 tyX8 := ⟨clX8, (lwG_in (List.mem_of_getElem? (i := 263) (by decide +kernel)) (by decide +kernel)), (lwG_in (List.mem_of_getElem? (i := 264) (by decide +kernel)) (by decide +kernel)), (lwG_in (List.mem_of_getElem? (i := 79) (by decide +kernel)) (by decide +kernel)), by decide +kernel⟩
theorem nw_X9_73 : NW RX9 73 1 RX1 TX1 3 tyX1 := ⟨clX1, (lwG_in (List.mem_of_getElem? (i := 305) (by decide +kernel)) (by decide +kernel)), (lwG_in (List.mem_of_getElem? (i := 306) (by decide +kernel)) (by decide +kernel)), (lwG_in (List.mem_of_getElem? (i := 80) (by decide +kernel)) (by decide +kernel)), by decide +kernel⟩
theorem nw_X9_80 : NW RX9 80 2 RX2 TX2 5 tyX2 := ⟨clX2, (lwG_in (List.mem_of_getElem? (i := 324) (by decide +kernel)) (by decide +kernel)), (lwG_in (List.mem_of_getElem? (i := 325) (by decide +kernel)) (by decide +kernel)), (lwG_in (List.mem_of_getElem? (i := 81) (by decide +kernel)) (by decide +kernel)), by decide +kernel⟩
theorem nw_X8_26 : NW RX8 26 7 RX7 TX7 9 tyX7 := ⟨clX7, (lwG_in (List.mem_of_getElem? (i := 269) (by decide +kernel)) (by decide +kernel)), (lwG_in (List.mem_of_getElem? (i := 98) (by decide +kernel)) (by decide +kernel)), (lwG_in (List.mem_of_getElem? (i := 72) (by decide +kernel)) (by decide +kernel)), by decide +kernel⟩
theorem nw_X8_32 : NW RX8 32 5 RX5 TX5 7 tyX5 := ⟨clX5, (lwG_in (List.mem_of_getElem? (i := 271) (by decide +kernel)) (by decide +kernel)), (lwG_in (List.mem_of_getElem? (i := 215) (by decide +kernel)) (by decide +kernel)), (lwG_in (List.mem_of_getElem? (i := 77) (by decide +kernel)) (by decide +kernel)), by decide +kernel⟩
theorem nw_X8_34 : NW RX8 34 3 RX3 TX3 3 tyX3 := ⟨clX3, (lwG_in (List.mem_of_getElem? (i := 272) (by decide +kernel)) (by decide +kernel)), (lwG_in (List.mem_of_getElem? (i := 190) (by decide +kernel)) (by decide +kernel)), (lwG_in (List.mem_of_getElem? (i := 75) (by decide +kernel)) (by decide +kernel)), by decide +kernel⟩
theorem nw_L_7 : NW RL 7 9 RX9 TX9 13 tyX9 := ⟨clX9, (lwG_in (List.mem_of_getElem? (i := 89) (by decide +kernel)) (by decide +kernel)), (lwG_in (List.mem_of_getElem? (i := 90) (by decide +kernel)) (by decide +kernel)), (lwG_in (List.mem_of_getElem? (i := 71) (by decide +kernel)) (by decide +kernel)), by decide +kernel⟩
theorem nw_L_10 : NW RL 10 10 RX10 TX10 49 tyX10 := ⟨clX10, (lwG_in (List.mem_of_getElem? (i := 922) (by decide +kernel)) (by decide +kernel)), (lwG_in (List.mem_of_getElem? (i := 923) (by decide +kernel)) (by decide +kernel)), (lwG_in (List.mem_of_getElem? (i := 87) (by decide +kernel)) (by decide +kernel)), by decide +kernel⟩
theorem oi_X9_3 : OI RX9 3 := ⟨(lwG_in (List.mem_of_getElem? (i := 94) (by decide +kernel)) (by decide +kernel)), (lwG_in (List.mem_of_getElem? (i := 95) (by decide +kernel)) (by decide +kernel)), (lwG_in (List.mem_of_getElem? (i := 96) (by decide +kernel)) (by decide +kernel))⟩
theorem oi_X0_3 : OI RX0 3 := ⟨(lwG_in (List.mem_of_getElem? (i := 175) (by decide +kernel)) (by decide +kernel)), (lwG_in (List.mem_of_getElem? (i := 95) (by decide +kernel)) (by decide +kernel)), (lwG_in (List.mem_of_getElem? (i := 96) (by decide +kernel)) (by decide +kernel))⟩
theorem oi_X1_1 : OI RX1 1 := ⟨(lwG_in (List.mem_of_getElem? (i := 310) (by decide +kernel)) (by decide +kernel)), (lwG_in (List.mem_of_getElem? (i := 95) (by decide +kernel)) (by decide +kernel)), (lwG_in (List.mem_of_getElem? (i := 96) (by decide +kernel)) (by decide +kernel))⟩
theorem oi_X2_3 : OI RX2 3 := ⟨(lwG_in (List.mem_of_getElem? (i := 329) (by decide +kernel)) (by decide +kernel)), (lwG_in (List.mem_of_getElem? (i := 95) (by decide +kernel)) (by decide +kernel)), (lwG_in (List.mem_of_getElem? (i := 96) (by decide +kernel)) (by decide +kernel))⟩
theorem oi_X3_3 : OI RX3 3 := ⟨(lwG_in (List.mem_of_getElem? (i := 194) (by decide +kernel)) (by decide +kernel)), (lwG_in (List.mem_of_getElem? (i := 95) (by decide +kernel)) (by decide +kernel)), (lwG_in (List.mem_of_getElem? (i := 96) (by decide +kernel)) (by decide +kernel))⟩
theorem oi_X4_3 : OI RX4 3 := ⟨(lwG_in (List.mem_of_getElem? (i := 153) (by decide +kernel)) (by decide +kernel)), (lwG_in (List.mem_of_getElem? (i := 95) (by decide +kernel)) (by decide +kernel)), (lwG_in (List.mem_of_getElem? (i := 96) (by decide +kernel)) (by decide +kernel))⟩
theorem oi_X5_3 : OI RX5 3 := ⟨(lwG_in (List.mem_of_getElem? (i := 219) (by decide +kernel)) (by decide +kernel)), (lwG_in (List.mem_of_getElem? (i := 95) (by decide +kernel)) (by decide +kernel)), (lwG_in (List.mem_of_getElem? (i := 96) (by decide +kernel)) (by decide +kernel))⟩
theorem oi_X6_3 : OI RX6 3 := ⟨(lwG_in (List.mem_of_getElem? (i := 249) (by decide +kernel)) (by decide +kernel)), (lwG_in (List.mem_of_getElem? (i := 95) (by decide +kernel)) (by decide +kernel)), (lwG_in (List.mem_of_getElem? (i := 96) (by decide +kernel)) (by decide +kernel))⟩
theorem oi_X7_3 : OI RX7 3 := ⟨(lwG_in (List.mem_of_getElem? (i := 102) (by decide +kernel)) (by decide +kernel)), (lwG_in (List.mem_of_getElem? (i := 95) (by decide +kernel)) (by decide +kernel)), (lwG_in (List.mem_of_getElem? (i := 96) (by decide +kernel)) (by decide +kernel))⟩
theorem oi_X8_3 : OI RX8 3 := ⟨(lwG_in (List.mem_of_getElem? (i := 268) (by decide +kernel)) (by decide +kernel)), (lwG_in (List.mem_of_getElem? (i := 95) (by decide +kernel)) (by decide +kernel)), (lwG_in (List.mem_of_getElem? (i := 96) (by decide +kernel)) (by decide +kernel))⟩
theorem oi_X10_1 : OI RX10 1 := ⟨(lwG_in (List.mem_of_getElem? (i := 927) (by decide +kernel)) (by decide +kernel)), (lwG_in (List.mem_of_getElem? (i := 95) (by decide +kernel)) (by decide +kernel)), (lwG_in (List.mem_of_getElem? (i := 96) (by decide +kernel)) (by decide +kernel))⟩
def iM_tabI (M : Mem) (b n : Nat) : Mem := (zM (zM (zM M (n)) (n + 1)) (n + 2))
def iP_tabI (P : PMem) (b n : Nat) : PMem := (upP (zP (upP (zP (upP (zP P (n)) (b) 6 (some ((n)))) (n + 1)) (b) 7 (some ((n + 1)))) (n + 2)) (b) 8 (some ((n + 2))))
set_option maxHeartbeats 4000000 in
set_option maxRecDepth 100000 in
theorem c_tabI {l : Launch} {b n : Nat} {M : Mem} {P : PMem} (hb : shp b = (7, 0)) (h0 : shp n = (11, 6)) (h1 : shp (n + 1) = (11, 6)) (h2 : shp (n + 2) = (11, 36)) (hbn : b < n) (hB : PB P (n)) : CtA l yX7_init cX7_init 1 none 1 20 3 48 (n) (n + 3) [vR b] M P (initQ (iM_tabI M b n) (iP_tabI P b n) (n + 3)) := by
  refine CtA_of (own := RX7) (L := [vR b]) (nm := n) (by decide) rfl rfl (Nat.le_of_ble_eq_true rfl) (Nat.le_refl _) (fun X ad hl hnm hcl hsl hC hQ => ?_)
  refine G_al0 hC dX7_init_0 ?_
  refine G_obj hC oi_X7_3 rfl (by decide) (Nat.le_of_ble_eq_true rfl) dX7_init_1 ?_
  refine G_al0 hC dX7_init_4 ?_
  refine G_bipush hC dX7_init_5 (by decide) ?_
  refine G_newI hC aw_int h0 rfl hB (by omega) (by omega) (by simp [rO2] <;> omega) (by simp [rO2] <;> omega) dX7_init_7 (fun ad1 ha1 hC1 => ?_)
  have hB1 := PB_z hB
  refine G_putFR hC1 hnm fl_X7_9 (fun _ _ _ h => by cases h; rfl) hb (by dsimp only [yn]; omega) (fun _ => rfl) (fun _ => rfl) dX7_init_9 ?_
  have hB202 := PB_up (k := b) (j := 6) (q := (n)) hB1 (by omega)
  refine G_al0 hC1 dX7_init_12 ?_
  refine G_bipush hC1 dX7_init_13 (by decide) ?_
  refine G_newI hC1 aw_int h1 rfl hB202 (by omega) (by omega) (by simp [rO2] <;> omega) (by simp [rO2] <;> omega) dX7_init_15 (fun ad3 ha3 hC3 => ?_)
  have hB3 := PB_z hB202
  refine G_putFR hC3 hnm fl_X7_15 (fun _ _ _ h => by cases h; rfl) hb (by dsimp only [yn]; omega) (fun _ => rfl) (fun _ => rfl) dX7_init_17 ?_
  have hB204 := PB_up (k := b) (j := 7) (q := (n + 1)) hB3 (by omega)
  refine G_al0 hC3 dX7_init_20 ?_
  refine G_bipush hC3 dX7_init_21 (by decide) ?_
  refine G_newI hC3 aw_int h2 rfl hB204 (by omega) (by omega) (by simp [rO2] <;> omega) (by simp [rO2] <;> omega) dX7_init_23 (fun ad5 ha5 hC5 => ?_)
  have hB5 := PB_z hB204
  refine G_putFR hC5 hnm fl_X7_18 (fun _ _ _ h => by cases h; rfl) hb (by dsimp only [yn]; omega) (fun _ => rfl) (fun _ => rfl) dX7_init_25 ?_
  have hB206 := PB_up (k := b) (j := 8) (q := (n + 2)) hB5 (by omega)
  exact G_vret hC5 hQ dX7_init_28 ⟨rfl, rfl, rfl, hB206⟩
def iM_reaI (M : Mem) : Mem := (zM M (7))
def iP_reaI (P : PMem) : PMem := (upP (upP (upP (zP P (7)) (6) 2 (some ((7)))) (6) 0 (some (1))) (6) 1 (some (2)))
set_option maxHeartbeats 4000000 in
set_option maxRecDepth 100000 in
theorem c_reaI {l : Launch}  {M : Mem} {P : PMem}  (hB : PB P (7)) : CtA l yX4_init cX4_init 3 none 1 20 1 3 (7) (8) [vR 6, vR 1, vR 2] M P (initQ (iM_reaI M) (iP_reaI P) (8)) := by
  refine CtA_of (own := RX4) (L := [vR 6, vR 1, vR 2]) (nm := 7) (by decide) rfl rfl (Nat.le_of_ble_eq_true rfl) (Nat.le_refl _) (fun X ad hl hnm hcl hsl hC hQ => ?_)
  refine G_al0 hC dX4_init_0 ?_
  refine G_obj hC oi_X4_3 rfl (by decide) (Nat.le_of_ble_eq_true rfl) dX4_init_1 ?_
  refine G_al0 hC dX4_init_4 ?_
  refine G_iconst hC dX4_init_5 ?_
  refine G_newI hC aw_int rfl rfl hB (by omega) (by omega) (by simp [rO2] <;> omega) (by simp [rO2] <;> omega) dX4_init_6 (fun ad1 ha1 hC1 => ?_)
  have hB1 := PB_z hB
  refine G_putFR hC1 hnm fl_X4_9 (fun _ _ _ h => by cases h; rfl) rfl (by dsimp only [yn]; omega) (fun _ => rfl) (fun _ => rfl) dX4_init_8 ?_
  have hB202 := PB_up (k := 6) (j := 2) (q := (7)) hB1 (by omega)
  refine G_al0 hC1 dX4_init_11 ?_
  refine G_al1 hC1 dX4_init_12 ?_
  refine G_putFR hC1 hnm fl_X4_15 (fun _ _ _ h => by cases h; rfl) rfl (by dsimp only [yn]; omega) (fun _ => rfl) (fun _ => rfl) dX4_init_13 ?_
  have hB203 := PB_up (k := 6) (j := 0) (q := 1) hB202 (by omega)
  refine G_al0 hC1 dX4_init_16 ?_
  refine G_al2 hC1 dX4_init_17 ?_
  refine G_putFR hC1 hnm fl_X4_18 (fun _ _ _ h => by cases h; rfl) rfl (by dsimp only [yn]; omega) (fun _ => rfl) (fun _ => rfl) dX4_init_18 ?_
  have hB204 := PB_up (k := 6) (j := 1) (q := 2) hB203 (by omega)
  exact G_vret hC1 hQ dX4_init_21 ⟨rfl, rfl, rfl, hB204⟩
def iM_layI (M : Mem) : Mem := (zM (zM M (13)) (14))
def iP_layI (P : PMem) : PMem := (upP (zP (upP (zP P (13)) (12) 1 (some ((13)))) (14)) (12) 2 (some ((14))))
set_option maxHeartbeats 4000000 in
set_option maxRecDepth 100000 in
theorem c_layI {l : Launch}  {M : Mem} {P : PMem}  (hB : PB P (13)) : CtA l yX0_init cX0_init 1 none 1 20 2 2768 (13) (15) [vR 12] M P (initQ (iM_layI M) (iP_layI P) (15)) := by
  refine CtA_of (own := RX0) (L := [vR 12]) (nm := 13) (by decide) rfl rfl (Nat.le_of_ble_eq_true rfl) (Nat.le_refl _) (fun X ad hl hnm hcl hsl hC hQ => ?_)
  refine G_al0 hC dX0_init_0 ?_
  refine G_obj hC oi_X0_3 rfl (by decide) (Nat.le_of_ble_eq_true rfl) dX0_init_1 ?_
  refine G_al0 hC dX0_init_4 ?_
  refine G_sipush hC dX0_init_5 (by decide) ?_
  refine G_newI hC aw_int rfl rfl hB (by omega) (by omega) (by simp [rO2] <;> omega) (by simp [rO2] <;> omega) dX0_init_8 (fun ad1 ha1 hC1 => ?_)
  have hB1 := PB_z hB
  refine G_putFR hC1 hnm fl_X0_9 (fun _ _ _ h => by cases h; rfl) rfl (by dsimp only [yn]; omega) (fun _ => rfl) (fun _ => rfl) dX0_init_10 ?_
  have hB202 := PB_up (k := 12) (j := 1) (q := (13)) hB1 (by omega)
  refine G_al0 hC1 dX0_init_13 ?_
  refine G_sipush hC1 dX0_init_14 (by decide) ?_
  refine G_newI hC1 aw_int rfl rfl hB202 (by omega) (by omega) (by simp [rO2] <;> omega) (by simp [rO2] <;> omega) dX0_init_17 (fun ad3 ha3 hC3 => ?_)
  have hB3 := PB_z hB202
  refine G_putFR hC3 hnm fl_X0_15 (fun _ _ _ h => by cases h; rfl) rfl (by dsimp only [yn]; omega) (fun _ => rfl) (fun _ => rfl) dX0_init_19 ?_
  have hB204 := PB_up (k := 12) (j := 2) (q := (14)) hB3 (by omega)
  exact G_vret hC3 hQ dX0_init_22 ⟨rfl, rfl, rfl, hB204⟩
def iM_movI15 (M : Mem) : Mem := (zM M (16))
def iP_movI15 (P : PMem) : PMem := (upP (zP (upP (upP P (15) 0 (some (8))) (15) 1 (some (12))) (16)) (15) 2 (some ((16))))
set_option maxHeartbeats 4000000 in
set_option maxRecDepth 100000 in
theorem c_movI15 {l : Launch}  {M : Mem} {P : PMem}  (hB : PB P (16)) : CtA l yX3_init cX3_init 4 none 1 21 1 4320 (16) (17) [vR 15, vR 8, vR 12, vI 4320] M P (initQ (iM_movI15 M) (iP_movI15 P) (17)) := by
  refine CtA_of (own := RX3) (L := [vR 15, vR 8, vR 12, vI 4320]) (nm := 16) (by decide) rfl rfl (Nat.le_of_ble_eq_true rfl) (Nat.le_refl _) (fun X ad hl hnm hcl hsl hC hQ => ?_)
  refine G_al0 hC dX3_init_0 ?_
  refine G_obj hC oi_X3_3 rfl (by decide) (Nat.le_of_ble_eq_true rfl) dX3_init_1 ?_
  refine G_al0 hC dX3_init_4 ?_
  refine G_al1 hC dX3_init_5 ?_
  refine G_putFR hC hnm fl_X3_9 (fun _ _ _ h => by cases h; rfl) rfl (by dsimp only [yn]; omega) (fun _ => rfl) (fun _ => rfl) dX3_init_6 ?_
  have hB201 := PB_up (k := 15) (j := 0) (q := 8) hB (by omega)
  refine G_al0 hC dX3_init_9 ?_
  refine G_al2 hC dX3_init_10 ?_
  refine G_putFR hC hnm fl_X3_15 (fun _ _ _ h => by cases h; rfl) rfl (by dsimp only [yn]; omega) (fun _ => rfl) (fun _ => rfl) dX3_init_11 ?_
  have hB202 := PB_up (k := 15) (j := 1) (q := 12) hB201 (by omega)
  refine G_al0 hC dX3_init_14 ?_
  refine G_iconst hC dX3_init_15 ?_
  refine G_il3 hC dX3_init_16 ?_
  refine G_max hC mm_X3_19 (by omega) (by omega) rfl (by decide) (Nat.le_of_ble_eq_true rfl) dX3_init_17 ?_
  refine G_newJ hC aw_long rfl (by decide) hB202 (by omega) (by omega) (by simp [rO2] <;> omega) (by simp [rO2] <;> omega) dX3_init_20 (fun ad3 ha3 hC3 => ?_)
  have hB3 := PB_z hB202
  refine G_putFR hC3 hnm fl_X3_25 (fun _ _ _ h => by cases h; rfl) rfl (by dsimp only [yn]; omega) (fun _ => rfl) (fun _ => rfl) dX3_init_22 ?_
  have hB204 := PB_up (k := 15) (j := 2) (q := (16)) hB3 (by omega)
  exact G_vret hC3 hQ dX3_init_25 ⟨rfl, rfl, rfl, hB204⟩
def iM_movI31 (M : Mem) : Mem := (zM M (32))
def iP_movI31 (P : PMem) : PMem := (upP (zP (upP (upP P (31) 0 (some (26))) (31) 1 (some (12))) (32)) (31) 2 (some ((32))))
set_option maxHeartbeats 4000000 in
set_option maxRecDepth 100000 in
theorem c_movI31 {l : Launch}  {M : Mem} {P : PMem}  (hB : PB P (32)) : CtA l yX3_init cX3_init 4 none 1 21 1 0 (32) (33) [vR 31, vR 26, vR 12, vI 0] M P (initQ (iM_movI31 M) (iP_movI31 P) (33)) := by
  refine CtA_of (own := RX3) (L := [vR 31, vR 26, vR 12, vI 0]) (nm := 32) (by decide) rfl rfl (Nat.le_of_ble_eq_true rfl) (Nat.le_refl _) (fun X ad hl hnm hcl hsl hC hQ => ?_)
  refine G_al0 hC dX3_init_0 ?_
  refine G_obj hC oi_X3_3 rfl (by decide) (Nat.le_of_ble_eq_true rfl) dX3_init_1 ?_
  refine G_al0 hC dX3_init_4 ?_
  refine G_al1 hC dX3_init_5 ?_
  refine G_putFR hC hnm fl_X3_9 (fun _ _ _ h => by cases h; rfl) rfl (by dsimp only [yn]; omega) (fun _ => rfl) (fun _ => rfl) dX3_init_6 ?_
  have hB201 := PB_up (k := 31) (j := 0) (q := 26) hB (by omega)
  refine G_al0 hC dX3_init_9 ?_
  refine G_al2 hC dX3_init_10 ?_
  refine G_putFR hC hnm fl_X3_15 (fun _ _ _ h => by cases h; rfl) rfl (by dsimp only [yn]; omega) (fun _ => rfl) (fun _ => rfl) dX3_init_11 ?_
  have hB202 := PB_up (k := 31) (j := 1) (q := 12) hB201 (by omega)
  refine G_al0 hC dX3_init_14 ?_
  refine G_iconst hC dX3_init_15 ?_
  refine G_il3 hC dX3_init_16 ?_
  refine G_max hC mm_X3_19 (by omega) (by omega) rfl (by decide) (Nat.le_of_ble_eq_true rfl) dX3_init_17 ?_
  refine G_newJ hC aw_long rfl (by decide) hB202 (by omega) (by omega) (by simp [rO2] <;> omega) (by simp [rO2] <;> omega) dX3_init_20 (fun ad3 ha3 hC3 => ?_)
  have hB3 := PB_z hB202
  refine G_putFR hC3 hnm fl_X3_25 (fun _ _ _ h => by cases h; rfl) rfl (by dsimp only [yn]; omega) (fun _ => rfl) (fun _ => rfl) dX3_init_22 ?_
  have hB204 := PB_up (k := 31) (j := 2) (q := (32)) hB3 (by omega)
  exact G_vret hC3 hQ dX3_init_25 ⟨rfl, rfl, rfl, hB204⟩
def iM_seaI17 (M : Mem) : Mem := (zM (zM (zM (upM M (17) 1 (1023)) (18)) (19)) (20))
def iP_seaI17 (P : PMem) : PMem := (upP (upP (zP (upP (zP (upP (zP P (18)) (17) 2 (some ((18)))) (19)) (17) 3 (some ((19)))) (20)) (17) 4 (some ((20)))) (17) 0 (some (15)))
set_option maxHeartbeats 4000000 in
set_option maxRecDepth 100000 in
theorem c_seaI17 {l : Launch}  {M : Mem} {P : PMem}  (hB : PB P (18)) : CtA l yX5_init cX5_init 2 none 1 20 3 2160 (18) (21) [vR 17, vR 15] M P (initQ (iM_seaI17 M) (iP_seaI17 P) (21)) := by
  refine CtA_of (own := RX5) (L := [vR 17, vR 15]) (nm := 18) (by decide) rfl rfl (Nat.le_of_ble_eq_true rfl) (Nat.le_refl _) (fun X ad hl hnm hcl hsl hC hQ => ?_)
  refine G_al0 hC dX5_init_0 ?_
  refine G_obj hC oi_X5_3 rfl (by decide) (Nat.le_of_ble_eq_true rfl) dX5_init_1 ?_
  refine G_al0 hC dX5_init_4 ?_
  refine G_sipush hC dX5_init_5 (by decide) ?_
  refine G_putI hC fl_X5_9 rfl (by omega) dX5_init_8 ?_
  refine G_al0 hC dX5_init_11 ?_
  refine G_sipush hC dX5_init_12 (by decide) ?_
  refine G_newI hC aw_int rfl rfl hB (by omega) (by omega) (by simp [rO2] <;> omega) (by simp [rO2] <;> omega) dX5_init_15 (fun ad1 ha1 hC1 => ?_)
  have hB1 := PB_z hB
  refine G_putFR hC1 hnm fl_X5_15 (fun _ _ _ h => by cases h; rfl) rfl (by dsimp only [yn]; omega) (fun _ => rfl) (fun _ => rfl) dX5_init_17 ?_
  have hB202 := PB_up (k := 17) (j := 2) (q := (18)) hB1 (by omega)
  refine G_al0 hC1 dX5_init_20 ?_
  refine G_sipush hC1 dX5_init_21 (by decide) ?_
  refine G_newI hC1 aw_int rfl rfl hB202 (by omega) (by omega) (by simp [rO2] <;> omega) (by simp [rO2] <;> omega) dX5_init_24 (fun ad3 ha3 hC3 => ?_)
  have hB3 := PB_z hB202
  refine G_putFR hC3 hnm fl_X5_19 (fun _ _ _ h => by cases h; rfl) rfl (by dsimp only [yn]; omega) (fun _ => rfl) (fun _ => rfl) dX5_init_26 ?_
  have hB204 := PB_up (k := 17) (j := 3) (q := (19)) hB3 (by omega)
  refine G_al0 hC3 dX5_init_29 ?_
  refine G_sipush hC3 dX5_init_30 (by decide) ?_
  refine G_newI hC3 aw_int rfl rfl hB204 (by omega) (by omega) (by simp [rO2] <;> omega) (by simp [rO2] <;> omega) dX5_init_33 (fun ad5 ha5 hC5 => ?_)
  have hB5 := PB_z hB204
  refine G_putFR hC5 hnm fl_X5_22 (fun _ _ _ h => by cases h; rfl) rfl (by dsimp only [yn]; omega) (fun _ => rfl) (fun _ => rfl) dX5_init_35 ?_
  have hB206 := PB_up (k := 17) (j := 4) (q := (20)) hB5 (by omega)
  refine G_al0 hC5 dX5_init_38 ?_
  refine G_al1 hC5 dX5_init_39 ?_
  refine G_putFR hC5 hnm fl_X5_25 (fun _ _ _ h => by cases h; rfl) rfl (by dsimp only [yn]; omega) (fun _ => rfl) (fun _ => rfl) dX5_init_40 ?_
  have hB207 := PB_up (k := 17) (j := 0) (q := 15) hB206 (by omega)
  exact G_vret hC5 hQ dX5_init_43 ⟨rfl, rfl, rfl, hB207⟩
def iM_seaI30 (M : Mem) : Mem := (zM (zM (zM (upM M (30) 1 (1023)) (33)) (34)) (35))
def iP_seaI30 (P : PMem) : PMem := (upP (upP (zP (upP (zP (upP (zP P (33)) (30) 2 (some ((33)))) (34)) (30) 3 (some ((34)))) (35)) (30) 4 (some ((35)))) (30) 0 (some (31)))
set_option maxHeartbeats 4000000 in
set_option maxRecDepth 100000 in
theorem c_seaI30 {l : Launch}  {M : Mem} {P : PMem}  (hB : PB P (33)) : CtA l yX5_init cX5_init 2 none 1 20 3 2160 (33) (36) [vR 30, vR 31] M P (initQ (iM_seaI30 M) (iP_seaI30 P) (36)) := by
  refine CtA_of (own := RX5) (L := [vR 30, vR 31]) (nm := 33) (by decide) rfl rfl (Nat.le_of_ble_eq_true rfl) (Nat.le_refl _) (fun X ad hl hnm hcl hsl hC hQ => ?_)
  refine G_al0 hC dX5_init_0 ?_
  refine G_obj hC oi_X5_3 rfl (by decide) (Nat.le_of_ble_eq_true rfl) dX5_init_1 ?_
  refine G_al0 hC dX5_init_4 ?_
  refine G_sipush hC dX5_init_5 (by decide) ?_
  refine G_putI hC fl_X5_9 rfl (by omega) dX5_init_8 ?_
  refine G_al0 hC dX5_init_11 ?_
  refine G_sipush hC dX5_init_12 (by decide) ?_
  refine G_newI hC aw_int rfl rfl hB (by omega) (by omega) (by simp [rO2] <;> omega) (by simp [rO2] <;> omega) dX5_init_15 (fun ad1 ha1 hC1 => ?_)
  have hB1 := PB_z hB
  refine G_putFR hC1 hnm fl_X5_15 (fun _ _ _ h => by cases h; rfl) rfl (by dsimp only [yn]; omega) (fun _ => rfl) (fun _ => rfl) dX5_init_17 ?_
  have hB202 := PB_up (k := 30) (j := 2) (q := (33)) hB1 (by omega)
  refine G_al0 hC1 dX5_init_20 ?_
  refine G_sipush hC1 dX5_init_21 (by decide) ?_
  refine G_newI hC1 aw_int rfl rfl hB202 (by omega) (by omega) (by simp [rO2] <;> omega) (by simp [rO2] <;> omega) dX5_init_24 (fun ad3 ha3 hC3 => ?_)
  have hB3 := PB_z hB202
  refine G_putFR hC3 hnm fl_X5_19 (fun _ _ _ h => by cases h; rfl) rfl (by dsimp only [yn]; omega) (fun _ => rfl) (fun _ => rfl) dX5_init_26 ?_
  have hB204 := PB_up (k := 30) (j := 3) (q := (34)) hB3 (by omega)
  refine G_al0 hC3 dX5_init_29 ?_
  refine G_sipush hC3 dX5_init_30 (by decide) ?_
  refine G_newI hC3 aw_int rfl rfl hB204 (by omega) (by omega) (by simp [rO2] <;> omega) (by simp [rO2] <;> omega) dX5_init_33 (fun ad5 ha5 hC5 => ?_)
  have hB5 := PB_z hB204
  refine G_putFR hC5 hnm fl_X5_22 (fun _ _ _ h => by cases h; rfl) rfl (by dsimp only [yn]; omega) (fun _ => rfl) (fun _ => rfl) dX5_init_35 ?_
  have hB206 := PB_up (k := 30) (j := 4) (q := (35)) hB5 (by omega)
  refine G_al0 hC5 dX5_init_38 ?_
  refine G_al1 hC5 dX5_init_39 ?_
  refine G_putFR hC5 hnm fl_X5_25 (fun _ _ _ h => by cases h; rfl) rfl (by dsimp only [yn]; omega) (fun _ => rfl) (fun _ => rfl) dX5_init_40 ?_
  have hB207 := PB_up (k := 30) (j := 0) (q := 31) hB206 (by omega)
  exact G_vret hC5 hQ dX5_init_43 ⟨rfl, rfl, rfl, hB207⟩
def iM_sumI (M : Mem) : Mem := (zM (zM (zM M (22)) (23)) (24))
def iP_sumI (P : PMem) : PMem := (upP (upP (zP (upP (zP (upP (zP P (22)) (21) 1 (some ((22)))) (23)) (21) 2 (some ((23)))) (24)) (21) 3 (some ((24)))) (21) 0 (some (15)))
set_option maxHeartbeats 4000000 in
set_option maxRecDepth 100000 in
theorem c_sumI {l : Launch}  {M : Mem} {P : PMem}  (hB : PB P (22)) : CtA l yX6_init cX6_init 2 none 1 20 3 2160 (22) (25) [vR 21, vR 15] M P (initQ (iM_sumI M) (iP_sumI P) (25)) := by
  refine CtA_of (own := RX6) (L := [vR 21, vR 15]) (nm := 22) (by decide) rfl rfl (Nat.le_of_ble_eq_true rfl) (Nat.le_refl _) (fun X ad hl hnm hcl hsl hC hQ => ?_)
  refine G_al0 hC dX6_init_0 ?_
  refine G_obj hC oi_X6_3 rfl (by decide) (Nat.le_of_ble_eq_true rfl) dX6_init_1 ?_
  refine G_al0 hC dX6_init_4 ?_
  refine G_sipush hC dX6_init_5 (by decide) ?_
  refine G_newI hC aw_int rfl rfl hB (by omega) (by omega) (by simp [rO2] <;> omega) (by simp [rO2] <;> omega) dX6_init_8 (fun ad1 ha1 hC1 => ?_)
  have hB1 := PB_z hB
  refine G_putFR hC1 hnm fl_X6_9 (fun _ _ _ h => by cases h; rfl) rfl (by dsimp only [yn]; omega) (fun _ => rfl) (fun _ => rfl) dX6_init_10 ?_
  have hB202 := PB_up (k := 21) (j := 1) (q := (22)) hB1 (by omega)
  refine G_al0 hC1 dX6_init_13 ?_
  refine G_sipush hC1 dX6_init_14 (by decide) ?_
  refine G_newJ hC1 aw_long rfl rfl hB202 (by omega) (by omega) (by simp [rO2] <;> omega) (by simp [rO2] <;> omega) dX6_init_17 (fun ad3 ha3 hC3 => ?_)
  have hB3 := PB_z hB202
  refine G_putR hC3 fl_X6_15 rfl (by omega) dX6_init_19 ?_
  have hB204 := PB_up (k := 21) (j := 2) (q := (23)) hB3 (by omega)
  refine G_al0 hC3 dX6_init_22 ?_
  refine G_sipush hC3 dX6_init_23 (by decide) ?_
  refine G_newJ hC3 aw_long rfl rfl hB204 (by omega) (by omega) (by simp [rO2] <;> omega) (by simp [rO2] <;> omega) dX6_init_26 (fun ad5 ha5 hC5 => ?_)
  have hB5 := PB_z hB204
  refine G_putR hC5 fl_X6_19 rfl (by omega) dX6_init_28 ?_
  have hB206 := PB_up (k := 21) (j := 3) (q := (24)) hB5 (by omega)
  refine G_al0 hC5 dX6_init_31 ?_
  refine G_al1 hC5 dX6_init_32 ?_
  refine G_putFR hC5 hnm fl_X6_22 (fun _ _ _ h => by cases h; rfl) rfl (by dsimp only [yn]; omega) (fun _ => rfl) (fun _ => rfl) dX6_init_33 ?_
  have hB207 := PB_up (k := 21) (j := 0) (q := 15) hB206 (by omega)
  exact G_vret hC5 hQ dX6_init_36 ⟨rfl, rfl, rfl, hB207⟩
def iM_momI (M : Mem) : Mem := M
def iP_momI (P : PMem) : PMem := P
set_option maxHeartbeats 4000000 in
set_option maxRecDepth 100000 in
theorem c_momI {l : Launch}  {M : Mem} {P : PMem}  (hB : PB P (37)) : CtA l yX1_init cX1_init 1 none 1 20 0 0 (37) (37) [vR 36] M P (initQ (iM_momI M) (iP_momI P) (37)) := by
  refine CtA_of (own := RX1) (L := [vR 36]) (nm := 37) (by decide) rfl rfl (Nat.le_of_ble_eq_true rfl) (Nat.le_refl _) (fun X ad hl hnm hcl hsl hC hQ => ?_)
  refine G_al0 hC dX1_init_0 ?_
  refine G_obj hC oi_X1_1 rfl (by decide) (Nat.le_of_ble_eq_true rfl) dX1_init_1 ?_
  exact G_vret hC hQ dX1_init_4 ⟨rfl, rfl, rfl, hB⟩
def iM_mosI37 (M : Mem) : Mem := (upM (zM (zM (zM M (38)) (39)) (40)) (37) 1 ((min 8 8)))
def iP_mosI37 (P : PMem) : PMem := (upP (zP (upP (zP (upP (zP P (38)) (37) 2 (some ((38)))) (39)) (37) 3 (some ((39)))) (40)) (37) 4 (some ((40))))
set_option maxHeartbeats 4000000 in
set_option maxRecDepth 100000 in
theorem c_mosI37 {l : Launch}  {M : Mem} {P : PMem}  (hB : PB P (38)) : CtA l yX2_init cX2_init 2 none 1 21 3 24 (38) (41) [vR 37, vI 8] M P (initQ (iM_mosI37 M) (iP_mosI37 P) (41)) := by
  refine CtA_of (own := RX2) (L := [vR 37, vI 8]) (nm := 38) (by decide) rfl rfl (Nat.le_of_ble_eq_true rfl) (Nat.le_refl _) (fun X ad hl hnm hcl hsl hC hQ => ?_)
  refine G_al0 hC dX2_init_0 ?_
  refine G_obj hC oi_X2_3 rfl (by decide) (Nat.le_of_ble_eq_true rfl) dX2_init_1 ?_
  refine G_al0 hC dX2_init_4 ?_
  refine G_bipush hC dX2_init_5 (by decide) ?_
  refine G_newI hC aw_int rfl rfl hB (by omega) (by omega) (by simp [rO2] <;> omega) (by simp [rO2] <;> omega) dX2_init_7 (fun ad1 ha1 hC1 => ?_)
  have hB1 := PB_z hB
  refine G_putFR hC1 hnm fl_X2_9 (fun _ _ _ h => by cases h; rfl) rfl (by dsimp only [yn]; omega) (fun _ => rfl) (fun _ => rfl) dX2_init_9 ?_
  have hB202 := PB_up (k := 37) (j := 2) (q := (38)) hB1 (by omega)
  refine G_al0 hC1 dX2_init_12 ?_
  refine G_bipush hC1 dX2_init_13 (by decide) ?_
  refine G_newJ hC1 aw_long rfl rfl hB202 (by omega) (by omega) (by simp [rO2] <;> omega) (by simp [rO2] <;> omega) dX2_init_15 (fun ad3 ha3 hC3 => ?_)
  have hB3 := PB_z hB202
  refine G_putFR hC3 hnm fl_X2_15 (fun _ _ _ h => by cases h; rfl) rfl (by dsimp only [yn]; omega) (fun _ => rfl) (fun _ => rfl) dX2_init_17 ?_
  have hB204 := PB_up (k := 37) (j := 3) (q := (39)) hB3 (by omega)
  refine G_al0 hC3 dX2_init_20 ?_
  refine G_bipush hC3 dX2_init_21 (by decide) ?_
  refine G_newI hC3 aw_int rfl rfl hB204 (by omega) (by omega) (by simp [rO2] <;> omega) (by simp [rO2] <;> omega) dX2_init_23 (fun ad5 ha5 hC5 => ?_)
  have hB5 := PB_z hB204
  refine G_putFR hC5 hnm fl_X2_19 (fun _ _ _ h => by cases h; rfl) rfl (by dsimp only [yn]; omega) (fun _ => rfl) (fun _ => rfl) dX2_init_25 ?_
  have hB206 := PB_up (k := 37) (j := 4) (q := (40)) hB5 (by omega)
  refine G_al0 hC5 dX2_init_28 ?_
  refine G_il1 hC5 dX2_init_29 ?_
  refine G_bipush hC5 dX2_init_30 (by decide) ?_
  refine G_min hC5 mm_X2_22 (by omega) (by omega) rfl (by decide) (Nat.le_of_ble_eq_true rfl) dX2_init_32 ?_
  refine G_putFI hC5 hnm fl_X2_28 (fun _ _ _ h => by cases h; rfl) rfl (by dsimp only [yn]; omega) dX2_init_35 ?_
  exact G_vret hC5 hQ dX2_init_38 ⟨rfl, rfl, rfl, hB206⟩
def iM_mosI41 (M : Mem) : Mem := (upM (zM (zM (zM M (42)) (43)) (44)) (41) 1 ((min 2 8)))
def iP_mosI41 (P : PMem) : PMem := (upP (zP (upP (zP (upP (zP P (42)) (41) 2 (some ((42)))) (43)) (41) 3 (some ((43)))) (44)) (41) 4 (some ((44))))
set_option maxHeartbeats 4000000 in
set_option maxRecDepth 100000 in
theorem c_mosI41 {l : Launch}  {M : Mem} {P : PMem}  (hB : PB P (42)) : CtA l yX2_init cX2_init 2 none 1 21 3 24 (42) (45) [vR 41, vI 2] M P (initQ (iM_mosI41 M) (iP_mosI41 P) (45)) := by
  refine CtA_of (own := RX2) (L := [vR 41, vI 2]) (nm := 42) (by decide) rfl rfl (Nat.le_of_ble_eq_true rfl) (Nat.le_refl _) (fun X ad hl hnm hcl hsl hC hQ => ?_)
  refine G_al0 hC dX2_init_0 ?_
  refine G_obj hC oi_X2_3 rfl (by decide) (Nat.le_of_ble_eq_true rfl) dX2_init_1 ?_
  refine G_al0 hC dX2_init_4 ?_
  refine G_bipush hC dX2_init_5 (by decide) ?_
  refine G_newI hC aw_int rfl rfl hB (by omega) (by omega) (by simp [rO2] <;> omega) (by simp [rO2] <;> omega) dX2_init_7 (fun ad1 ha1 hC1 => ?_)
  have hB1 := PB_z hB
  refine G_putFR hC1 hnm fl_X2_9 (fun _ _ _ h => by cases h; rfl) rfl (by dsimp only [yn]; omega) (fun _ => rfl) (fun _ => rfl) dX2_init_9 ?_
  have hB202 := PB_up (k := 41) (j := 2) (q := (42)) hB1 (by omega)
  refine G_al0 hC1 dX2_init_12 ?_
  refine G_bipush hC1 dX2_init_13 (by decide) ?_
  refine G_newJ hC1 aw_long rfl rfl hB202 (by omega) (by omega) (by simp [rO2] <;> omega) (by simp [rO2] <;> omega) dX2_init_15 (fun ad3 ha3 hC3 => ?_)
  have hB3 := PB_z hB202
  refine G_putFR hC3 hnm fl_X2_15 (fun _ _ _ h => by cases h; rfl) rfl (by dsimp only [yn]; omega) (fun _ => rfl) (fun _ => rfl) dX2_init_17 ?_
  have hB204 := PB_up (k := 41) (j := 3) (q := (43)) hB3 (by omega)
  refine G_al0 hC3 dX2_init_20 ?_
  refine G_bipush hC3 dX2_init_21 (by decide) ?_
  refine G_newI hC3 aw_int rfl rfl hB204 (by omega) (by omega) (by simp [rO2] <;> omega) (by simp [rO2] <;> omega) dX2_init_23 (fun ad5 ha5 hC5 => ?_)
  have hB5 := PB_z hB204
  refine G_putFR hC5 hnm fl_X2_19 (fun _ _ _ h => by cases h; rfl) rfl (by dsimp only [yn]; omega) (fun _ => rfl) (fun _ => rfl) dX2_init_25 ?_
  have hB206 := PB_up (k := 41) (j := 4) (q := (44)) hB5 (by omega)
  refine G_al0 hC5 dX2_init_28 ?_
  refine G_il1 hC5 dX2_init_29 ?_
  refine G_bipush hC5 dX2_init_30 (by decide) ?_
  refine G_min hC5 mm_X2_22 (by omega) (by omega) rfl (by decide) (Nat.le_of_ble_eq_true rfl) dX2_init_32 ?_
  refine G_putFI hC5 hnm fl_X2_28 (fun _ _ _ h => by cases h; rfl) rfl (by dsimp only [yn]; omega) dX2_init_35 ?_
  exact G_vret hC5 hQ dX2_init_38 ⟨rfl, rfl, rfl, hB206⟩
def iM_whaI (M : Mem) : Mem := (iM_seaI30 (iM_movI31 (zM (zM (iM_tabI (zM (upM (upM M (25) 2 (1023)) (25) 4 (1023)) (26)) 26 27) (30)) (31))))
def iP_whaI (P : PMem) : PMem := (upP (iP_seaI30 (iP_movI31 (zP (zP (upP (iP_tabI (zP (upP (upP P (25) 5 (some (8))) (25) 6 (some (17))) (26)) 26 27) (25) 7 (some ((26)))) (30)) (31)))) (25) 8 (some ((30))))
set_option maxHeartbeats 4000000 in
set_option maxRecDepth 100000 in
theorem c_whaI {l : Launch}  {M : Mem} {P : PMem}  (hp17 : P 17 0 = some 15) (hp15 : P 15 1 = some 12) (hB : PB P (26)) : CtA l yX8_init cX8_init 3 none 2 44 10 2227 (26) (36) [vR 25, vR 8, vR 17] M P (initQ (iM_whaI M) (iP_whaI P) (36)) := by
  refine CtA_of (own := RX8) (L := [vR 25, vR 8, vR 17]) (nm := 26) (by decide) rfl rfl (Nat.le_of_ble_eq_true rfl) (Nat.le_refl _) (fun X ad hl hnm hcl hsl hC hQ => ?_)
  refine G_al0 hC dX8_init_0 ?_
  refine G_obj hC oi_X8_3 rfl (by decide) (Nat.le_of_ble_eq_true rfl) dX8_init_1 ?_
  refine G_al0 hC dX8_init_4 ?_
  refine G_sipush hC dX8_init_5 (by decide) ?_
  refine G_putI hC fl_X8_9 rfl (by omega) dX8_init_8 ?_
  refine G_al0 hC dX8_init_11 ?_
  refine G_sipush hC dX8_init_12 (by decide) ?_
  refine G_putI hC fl_X8_15 rfl (by omega) dX8_init_15 ?_
  refine G_al0 hC dX8_init_18 ?_
  refine G_al1 hC dX8_init_19 ?_
  refine G_putFR hC hnm fl_X8_18 (fun _ _ _ h => by cases h; rfl) rfl (by dsimp only [yn]; omega) (fun _ => rfl) (fun _ => rfl) dX8_init_20 ?_
  have hB201 := PB_up (k := 25) (j := 5) (q := 8) hB (by omega)
  refine G_al0 hC dX8_init_23 ?_
  refine G_al2 hC dX8_init_24 ?_
  refine G_putFR hC hnm fl_X8_22 (fun _ _ _ h => by cases h; rfl) rfl (by dsimp only [yn]; omega) (fun _ => rfl) (fun _ => rfl) dX8_init_25 ?_
  have hB202 := PB_up (k := 25) (j := 6) (q := 17) hB201 (by omega)
  refine G_al0 hC dX8_init_28 ?_
  refine G_new hC nw_X8_26 rfl hB202 (by omega) (by omega) (by simp [rO2] <;> omega) (by simp [rO2] <;> omega) dX8_init_29 (fun ad3 ha3 hC3 => ?_)
  have hB3 := PB_z hB202
  refine G_dup hC3 dX8_init_32 rfl ?_
  refine G_callIB hC3 (c_tabI (b := 26) (n := 27) rfl rfl rfl rfl (by omega) hB3) mi_X8_28 rfl (by decide) (Nat.le_of_ble_eq_true rfl) (by omega) (by omega) (by omega) rfl (by simp [rO2] <;> omega) (by simp [rO2] <;> omega) (fun r M' P' h => ⟨h.1, h.2.2.2⟩) dX8_init_33 rfl (fun ad4 M4 P4 h4 ha4 hC4 => ?_)
  obtain ⟨-, rfl, rfl, hB104⟩ := h4
  refine G_putFR hC4 hnm fl_X8_29 (fun _ _ _ h => by cases h; rfl) rfl (by dsimp only [yn]; omega) (fun _ => rfl) (fun _ => rfl) dX8_init_36 ?_
  have hB205 := PB_up (k := 25) (j := 7) (q := (26)) hB104 (by omega)
  refine G_al0 hC4 dX8_init_39 ?_
  refine G_new hC4 nw_X8_32 rfl hB205 (by omega) (by omega) (by simp [rO2] <;> omega) (by simp [rO2] <;> omega) dX8_init_40 (fun ad6 ha6 hC6 => ?_)
  have hB6 := PB_z hB205
  refine G_dup hC6 dX8_init_43 rfl ?_
  refine G_new hC6 nw_X8_34 rfl hB6 (by omega) (by omega) (by simp [rO2] <;> omega) (by simp [rO2] <;> omega) dX8_init_44 (fun ad7 ha7 hC7 => ?_)
  have hB7 := PB_z hB6
  refine G_dup hC7 dX8_init_47 rfl ?_
  refine G_al0 hC7 dX8_init_48 ?_
  refine G_getR (q := 26) hC7 fl_X8_29 rfl (by omega) rfl dX8_init_49 ?_
  refine G_al2 hC7 dX8_init_52 ?_
  refine G_getR (q := 15) hC7 fl_X8_36 rfl (by omega) hp17 dX8_init_53 ?_
  refine G_getR (q := 12) hC7 fl_X8_40 rfl (by omega) hp15 dX8_init_56 ?_
  refine G_iconst hC7 dX8_init_59 ?_
  refine G_callIB hC7 (c_movI31 hB7) mi_X8_44 rfl (by decide) (Nat.le_of_ble_eq_true rfl) (by omega) (by omega) (by omega) rfl (by simp [rO2] <;> omega) (by simp [rO2] <;> omega) (fun r M' P' h => ⟨h.1, h.2.2.2⟩) dX8_init_60 rfl (fun ad8 M8 P8 h8 ha8 hC8 => ?_)
  obtain ⟨-, rfl, rfl, hB108⟩ := h8
  refine G_callIB hC8 (c_seaI30 hB108) mi_X8_47 rfl (by decide) (Nat.le_of_ble_eq_true rfl) (by omega) (by omega) (by omega) rfl (by simp [rO2] <;> omega) (by simp [rO2] <;> omega) (fun r M' P' h => ⟨h.1, h.2.2.2⟩) dX8_init_63 rfl (fun ad9 M9 P9 h9 ha9 hC9 => ?_)
  obtain ⟨-, rfl, rfl, hB109⟩ := h9
  refine G_putFR hC9 hnm fl_X8_50 (fun _ _ _ h => by cases h; rfl) rfl (by dsimp only [yn]; omega) (fun _ => rfl) (fun _ => rfl) dX8_init_66 ?_
  have hB210 := PB_up (k := 25) (j := 8) (q := (30)) hB109 (by omega)
  exact G_vret hC9 hQ dX8_init_69 ⟨rfl, rfl, rfl, hB210⟩
