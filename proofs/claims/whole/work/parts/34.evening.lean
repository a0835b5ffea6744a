/-! evenings, undoing, keeping -/
theorem aft_out {T : TB} {f : Nat → Nat} {i j x : Nat} (h2 : 2 ≤ tn T) (hi : i < tn T) (hj : j < tn T) (hx : tn T ≤ x) : aft T f i j x = f x := by
  have hch : ∀ (f : Nat → Nat) (s : Nat), s < tn T → chd T f s x = f x := fun f s hs => by
    unfold chd
    split
    · have := nxt_lt (T := T) (u := 1) h2 hs
      unfold sw ud; rw [if_neg (by omega), if_neg (by omega)]
    · rfl
  unfold aft
  rw [hch _ _ hj, hch _ _ hi, car_out h2 hi hx _ _ _ _ (nxt_lt h2 hj), car_out h2 hj hx _ _ _ _ (nxt_lt h2 hi)]
  unfold ud; rw [if_neg (by omega), if_neg (by omega)]
theorem aft_lie {T : TB} {f0 f : Nat → Nat} {i j : Nat} (h2 : 2 ≤ tn T) (h6 : tn T ≤ 6) (hi : i < tn T) (hj : j < tn T) (hij : i ≠ j) (h0 : ∀ i, f0 i < 6 ∨ f0 i = 7) (hf : lieOK f) (h : AR (tn T) f0 f) : lieOK (aft T f i j) := fun x => by
  rcases Nat.lt_or_ge x (tn T) with z | z
  · exact AR_lie h0 (aft_AR h2 h6 hi hj hij h) x z
  · rw [aft_out h2 hi hj z]; exact hf x
theorem hnd_le5 {T : TB} {i j : Nat} (h6 : tn T ≤ 6) (hi : i < tn T) (hj : j < tn T) : hnd T i j ≤ 5 := by
  unfold hnd sR
  split
  · split <;> omega
  · split <;> omega
theorem StR_add {M : Mem} {m : Nat} {ms : List MO} {x : MO} (hm : 36 < m) (h : StR M m ms) (h0 : M 36 0 = (enc x.1 : Int)) (h1 : M 36 1 = (encH x.2.1 : Int)) (h2 : M 36 2 = (x.2.2 : Int)) : StR (adM M m ms.length) m (ms ++ [x]) := by
  obtain ⟨a1, a2⟩ := h
  unfold adM
  refine ⟨by rw [upM_self]; simp, fun k y hk => ?_⟩
  have hk' : (adM M m ms.length (m + 1) k = if k = ms.length then M 36 0 else M (m + 1) k) ∧ (adM M m ms.length (m + 2) k = if k = ms.length then M 36 1 else M (m + 2) k) ∧ (adM M m ms.length (m + 3) k = if k = ms.length then M 36 2 else M (m + 3) k) := by
    unfold adM upM
    by_cases q : k = ms.length <;> simp [q]
  unfold adM at hk'
  rw [hk'.1, hk'.2.1, hk'.2.2]
  rcases Nat.lt_trichotomy k ms.length with q | q | q
  · rw [List.getElem?_append_left q] at hk
    rw [if_neg (by omega), if_neg (by omega), if_neg (by omega)]
    exact a2 k y hk
  · subst q
    rw [List.getElem?_append_right (Nat.le_refl _)] at hk
    simp at hk
    rw [if_pos rfl, if_pos rfl, if_pos rfl, ← hk]
    exact ⟨h0, h1, h2⟩
  · rw [List.getElem?_append_right (by omega), List.getElem?_eq_none (by simp; omega)] at hk
    cases hk
theorem StR_drop {M : Mem} {m : Nat} {ms : List MO} (h : StR M m ms) (hl : 1 ≤ ms.length) : StR (doM M m ms.length) m ms.tail := by
  obtain ⟨a1, a2⟩ := h
  unfold doM
  refine ⟨by rw [upM_self]; simp; omega, fun k y hk => ?_⟩
  rw [List.getElem?_tail] at hk
  have hkl := (List.getElem?_eq_some_iff.mp hk).1
  rw [upM_ne (by omega), upM_ne (by omega), upM_ne (by omega)]
  unfold doL
  rw [if_pos (by omega), if_pos (by omega), if_pos (by omega)]
  exact a2 (k + 1) y hk
theorem StR_pop {M : Mem} {m : Nat} {ms : List MO} {x : MO} (hm : 36 < m) (h : StR M m (ms ++ [x])) : StR (taM M m ms.length) m ms ∧ taM M m ms.length 36 0 = (enc x.1 : Int) ∧ taM M m ms.length 36 1 = (encH x.2.1 : Int) ∧ taM M m ms.length 36 2 = (x.2.2 : Int) := by
  obtain ⟨a1, a2⟩ := h
  have hx := a2 ms.length x (by simp)
  unfold taM
  refine ⟨⟨by rw [upM_ne (by omega), upM_ne (by omega), upM_ne (by omega), upM_self], fun k y hk => ?_⟩, by rw [upM_nej (by omega), upM_nej (by omega), upM_self]; exact hx.1, by rw [upM_nej (by omega), upM_self]; exact hx.2.1, by rw [upM_self]; exact hx.2.2⟩
  have hkl := (List.getElem?_eq_some_iff.mp hk).1
  rw [upM_ne (by omega), upM_ne (by omega), upM_ne (by omega), upM_ne (by omega), upM_ne (by omega), upM_ne (by omega), upM_ne (by omega), upM_ne (by omega), upM_ne (by omega), upM_ne (by omega), upM_ne (by omega), upM_ne (by omega)]
  exact a2 k y (by rw [List.getElem?_append_left hkl]; exact hk)
theorem last_ex {ms : List MO} (h : ms ≠ []) : ∃ ys x, ms = ys ++ [x] := ⟨ms.dropLast, ms.getLast h, (List.dropLast_concat_getLast h).symm⟩
def sMo : Nat → Prop := fun a => 36 ≤ a ∧ a ≤ 44
theorem CIv_mo {c c' : Nat} {M M' : Mem} {P : PMem} {S : AS} {nw : MO} {un ke : List MO} (hI : CIv c M P S) (hc : c ≤ c') (hx : eqx sMo M M') (hF : pF M' (S.1, S.2.1, nw, un, ke)) (h1 : mOK c' (tn (sT S)) (sF0 S) nw) (h2 : ∀ m ∈ un, mOK c' (tn (sT S)) (sF0 S) m) (h3 : ∀ m ∈ ke, mOK c' (tn (sT S)) (sF0 S) m) (h4 : un.length ≤ 8) (h5 : ke.length ≤ 2) : CIv c' M' P (S.1, S.2.1, nw, un, ke) ∧ eqx clsX M M' := by
  obtain ⟨a1, ⟨b1, b2, b3, b4, -⟩, a3, a4, -, N, lq, a6⟩ := hI
  exact ⟨⟨a1, ⟨b1, b2, b3, b4, h1, h2, h3, h4, h5⟩, pA_x a3 (fun a ha b => hx a (by unfold sMo; omega) b), pT_x a4 (fun a ha b => hx a (by unfold sMo; omega) b), hF, N, lq, LyS_x a6 (fun a h1 h2 h3 h4 h5 b => hx a (by unfold sMo; omega) b)⟩, fun a ha b => hx a (fun q => ha (by unfold clsX; unfold sMo at q; omega)) b⟩
theorem adM_x {M : Mem} {m n : Nat} (hm : isMo m) : eqx sMo M (adM M m n) := fun a ha b => by
  unfold sMo at ha
  unfold isMo at hm
  unfold adM
  rw [upM_ne (by omega), upM_ne (by omega), upM_ne (by omega), upM_ne (by omega)]
theorem adM_36 {M : Mem} {m n : Nat} (hm : 36 < m) (b : Nat) : adM M m n 36 b = M 36 b := by
  unfold adM
  rw [upM_ne (by omega), upM_ne (by omega), upM_ne (by omega), upM_ne (by omega)]
theorem adM_1 {M : Mem} {m n : Nat} : adM M m n m 1 = M m 1 := by
  unfold adM
  rw [upM_nej (by omega), upM_ne (by omega), upM_ne (by omega), upM_ne (by omega)]
theorem adM_o {M : Mem} {m n a : Nat} (h : a < m ∨ m + 3 < a) (b : Nat) : adM M m n a b = M a b := by
  unfold adM
  rw [upM_ne (by omega), upM_ne (by omega), upM_ne (by omega), upM_ne (by omega)]
theorem doM_o {M : Mem} {m n a : Nat} (h : a < m ∨ m + 3 < a) (b : Nat) : doM M m n a b = M a b := by
  unfold doM doL
  rw [upM_ne (by omega), if_neg (by omega)]
theorem doM_1 {M : Mem} {m n : Nat} : doM M m n m 1 = M m 1 := by
  unfold doM doL
  rw [upM_nej (by omega), if_neg (by omega)]
theorem taM_o {M : Mem} {m n a : Nat} (h36 : a ≠ 36) (h : a ≠ m) (b : Nat) : taM M m n a b = M a b := by
  unfold taM
  rw [upM_ne h36, upM_ne h36, upM_ne h36, upM_ne h]
theorem taM_1 {M : Mem} {m n : Nat} (hm : 36 < m) : taM M m n m 1 = M m 1 := by
  unfold taM
  rw [upM_ne (by omega), upM_ne (by omega), upM_ne (by omega), upM_nej (by omega)]
def keepS (S : AS) : Int × AS := if (sKe S).length < 2 then ((sKe S).length + 1, (S.1, S.2.1, sNow S, sUn S, sKe S ++ [sNow S])) else (-3, S)
def undoS (S : AS) : Int × AS := match (sUn S).getLast? with
  | none => (-2, S)
  | some x => (((sUn S).length : Int) - 1, (S.1, S.2.1, x, (sUn S).dropLast, sKe S))
def backS (S : AS) : Int × AS := match (sKe S).getLast? with
  | none => (-2, S)
  | some x => (((sKe S).length : Int) - 1, (S.1, S.2.1, x, [], (sKe S).dropLast))
set_option maxHeartbeats 4000000 in
set_option maxRecDepth 100000 in
theorem c_X9_keep {l : Launch} {c : Nat} {S : AS} {M : Mem} {P : PMem} (hI : CIv c M P S)  : CtI l yX9_keep cX9_keep 1 (some .int) 3 63 45 [vR 0] M P (cR c M P (keepS S).2 (keepS S).1) := by
  refine Ct_of (own := RX9) (L := [vR 0]) (by decide) rfl rfl (Nat.le_of_ble_eq_true rfl) (fun X Y hl hC hQ => ?_)
  obtain ⟨⟨hGr, wa, wb, hw, hwa, hwb⟩, hS, hA, hT, hF, N, lq, hL⟩ := id hI
  obtain ⟨s1, ⟨s2, s3, s4, s5, s6, s7, s8⟩, ⟨s9, s10, s11, s12⟩, s13, s14, s15, s16, s17, s18⟩ := id hS
  obtain ⟨m1, m2, m3, m4⟩ := id s14
  obtain ⟨f1, f2, f3, f4⟩ := id hF
  obtain ⟨t1, t2, t3, t4, t5⟩ := id hT
  obtain ⟨i1, i2, i3, i4⟩ := id hL.1
  obtain ⟨hR0, hR2, hR6, hRr, hRr1, hRk, hRw⟩ := id i1
  have hT8 : isT 8 := Or.inr (Or.inl rfl)
  have hlo := m1.lo
  by_cases hk : (sKe S).length < 2
  · have hst := StR_add (x := sNow S) (by omega) f4 f1.1 f1.2.1 f1.2.2
    have hnl : adM M 41 (sKe S).length 41 0 = ((sKe S).length : Int) + 1 := by rw [hst.1]; simp
    obtain ⟨z1, z2⟩ := CIv_mo (nw := sNow S) (un := sUn S) (ke := sKe S ++ [sNow S]) hI (Nat.le_refl c) (adM_x (n := (sKe S).length) (Or.inr rfl)) ⟨by simp only [adM_36 (show 36 < 41 by omega)]; exact f1, by rw [adM_o (by omega), adM_1]; exact f2, StR_x f3 (fun a ha b => adM_o (by omega) b), hst⟩ s14 s15 (fun m hm => by
      rcases List.mem_append.mp hm with q | q
      · exact s16 m q
      · rw [List.mem_singleton.mp q]; exact s14) s17 (by simp; omega)
    refine G_al0 hC dX9_keep_0 ?_
    refine G_getR hC fl_X9_89 (by first | assumption | rfl) (by omega) (by first | assumption | exact hGr _ _ _ rfl) dX9_keep_1 ?_
    refine G_getI hC fl_X9_151 (by first | assumption | rfl) (by omega) dX9_keep_4 ?_
    rw [f4.1]
    refine G_iconst hC dX9_keep_7 ?_
    refine G_icmp_lt (tgt := 14) hC dX9_keep_8 (by decide) (by omega) (by omega) (fun c8 => ?_) (fun c8 => ?_)
    · refine G_al0 hC dX9_keep_14 ?_
      refine G_getR hC fl_X9_89 (by first | assumption | rfl) (by omega) (by first | assumption | exact hGr _ _ _ rfl) dX9_keep_15 ?_
      refine G_al0 hC dX9_keep_18 ?_
      refine G_getR hC fl_X9_76 (by first | assumption | rfl) (by omega) (by first | assumption | exact hGr _ _ _ rfl) dX9_keep_19 ?_
      refine G_callVV hC (c_X2_addLast1 (n := (sKe S).length) (r := 2) hGr (Or.inr rfl) f4.1 f2.2 hk (by omega)) mv_X9_186 (by first | assumption | rfl) (by omega) (by decide) rfl (by decide) dX9_keep_22 rfl (Nat.le_of_ble_eq_true rfl) rfl (fun M22 P22 h22 => ?_)
      obtain ⟨rfl, rfl⟩ := h22
      refine G_al0 hC dX9_keep_25 ?_
      refine G_getR hC fl_X9_89 (by first | assumption | rfl) (by omega) (by first | assumption | exact hGr _ _ _ rfl) dX9_keep_26 ?_
      refine G_getI hC fl_X9_151 (by first | assumption | rfl) (by omega) dX9_keep_29 ?_
      exact G_iret hC hQ dX9_keep_32 ⟨_, rfl, by unfold keepS; rw [if_pos hk]; exact hnl, by unfold keepS; rw [if_pos hk]; exact z1, z2, PX.refl⟩
    · exact absurd c8 (by omega)
  · refine G_al0 hC dX9_keep_0 ?_
    refine G_getR hC fl_X9_89 (by first | assumption | rfl) (by omega) (by first | assumption | exact hGr _ _ _ rfl) dX9_keep_1 ?_
    refine G_getI hC fl_X9_151 (by first | assumption | rfl) (by omega) dX9_keep_4 ?_
    rw [f4.1]
    refine G_iconst hC dX9_keep_7 ?_
    refine G_icmp_lt (tgt := 14) hC dX9_keep_8 (by decide) (by omega) (by omega) (fun c8 => ?_) (fun c8 => ?_)
    · exact absurd c8 (by omega)
    · refine G_bipush hC dX9_keep_11 (by decide) ?_
      exact G_iret hC hQ dX9_keep_13 ⟨_, rfl, by unfold keepS; rw [if_neg hk], by unfold keepS; rw [if_neg hk]; exact hI, eqx.refl, PX.refl⟩
set_option maxHeartbeats 4000000 in
set_option maxRecDepth 100000 in
theorem c_X9_undo {l : Launch} {c : Nat} {S : AS} {M : Mem} {P : PMem} (hI : CIv c M P S)  : CtI l yX9_undo cX9_undo 1 (some .int) 1 21 45 [vR 0] M P (cR c M P (undoS S).2 (undoS S).1) := by
  refine Ct_of (own := RX9) (L := [vR 0]) (by decide) rfl rfl (Nat.le_of_ble_eq_true rfl) (fun X Y hl hC hQ => ?_)
  obtain ⟨⟨hGr, wa, wb, hw, hwa, hwb⟩, hS, hA, hT, hF, N, lq, hL⟩ := id hI
  obtain ⟨s1, ⟨s2, s3, s4, s5, s6, s7, s8⟩, ⟨s9, s10, s11, s12⟩, s13, s14, s15, s16, s17, s18⟩ := id hS
  obtain ⟨m1, m2, m3, m4⟩ := id s14
  obtain ⟨f1, f2, f3, f4⟩ := id hF
  obtain ⟨t1, t2, t3, t4, t5⟩ := id hT
  obtain ⟨i1, i2, i3, i4⟩ := id hL.1
  obtain ⟨hR0, hR2, hR6, hRr, hRr1, hRk, hRw⟩ := id i1
  have hT8 : isT 8 := Or.inr (Or.inl rfl)
  have hlo := m1.lo
  by_cases hk : sUn S = []
  · refine G_al0 hC dX9_undo_0 ?_
    refine G_getR hC fl_X9_85 (by first | assumption | rfl) (by omega) (by first | assumption | exact hGr _ _ _ rfl) dX9_undo_1 ?_
    refine G_getI hC fl_X9_151 (by first | assumption | rfl) (by omega) dX9_undo_4 ?_
    rw [f3.1, hk, show (([] : List MO).length : Int) = 0 from rfl]
    refine G_if_ne (tgt := 13) hC dX9_undo_7 (by decide) (by omega) (fun c7 => ?_) (fun c7 => ?_)
    · exact absurd rfl c7
    · refine G_bipush hC dX9_undo_10 (by decide) ?_
      exact G_iret hC hQ dX9_undo_12 ⟨_, rfl, by unfold undoS; rw [hk]; rfl, by unfold undoS; rw [hk]; exact hI, eqx.refl, PX.refl⟩
  · obtain ⟨ys, x, hy⟩ := last_ex hk
    have hst := StR_pop (M := M) (m := 37) (ms := ys) (x := x) (by omega) (by rw [← hy]; exact f3)
    have hlen : (sUn S).length = ys.length + 1 := by rw [hy]; simp
    have hul : M 37 0 = (ys.length : Int) + 1 := by rw [f3.1, hlen]; omega
    obtain ⟨z1, z2⟩ := CIv_mo (M' := taM M 37 ys.length) (nw := x) (un := ys) (ke := sKe S) hI (Nat.le_refl c) (fun a ha b => by unfold sMo at ha; exact taM_o (by omega) (by omega) b) ⟨⟨hst.2.1, hst.2.2.1, hst.2.2.2⟩, by rw [taM_1 (by omega), taM_o (by omega) (by omega)]; exact f2, hst.1, StR_x f4 (fun a ha b => taM_o (by omega) (by omega) b)⟩ (s15 x (by rw [hy]; simp)) (fun m hm => s15 m (by rw [hy]; simp [hm])) s16 (by omega) s18
    have hud : undoS S = ((ys.length : Int), (S.1, S.2.1, x, ys, sKe S)) := by
      unfold undoS
      rw [hy]
      simp
    refine G_al0 hC dX9_undo_0 ?_
    refine G_getR hC fl_X9_85 (by first | assumption | rfl) (by omega) (by first | assumption | exact hGr _ _ _ rfl) dX9_undo_1 ?_
    refine G_getI hC fl_X9_151 (by first | assumption | rfl) (by omega) dX9_undo_4 ?_
    rw [hul]
    refine G_if_ne (tgt := 13) hC dX9_undo_7 (by decide) (by omega) (fun c7 => ?_) (fun c7 => ?_)
    · refine G_al0 hC dX9_undo_13 ?_
      refine G_getR hC fl_X9_85 (by first | assumption | rfl) (by omega) (by first | assumption | exact hGr _ _ _ rfl) dX9_undo_14 ?_
      refine G_al0 hC dX9_undo_17 ?_
      refine G_getR hC fl_X9_76 (by first | assumption | rfl) (by omega) (by first | assumption | exact hGr _ _ _ rfl) dX9_undo_18 ?_
      refine G_callVV hC (c_X2_takeLast (n := ys.length) hGr (Or.inl rfl) hul (by omega)) mv_X9_193 (by first | assumption | rfl) (by omega) (by decide) rfl (by decide) dX9_undo_21 rfl (Nat.le_of_ble_eq_true rfl) rfl (fun M21 P21 h21 => ?_)
      obtain ⟨rfl, rfl⟩ := h21
      refine G_al0 hC dX9_undo_24 ?_
      refine G_getR hC fl_X9_85 (by first | assumption | rfl) (by omega) (by first | assumption | exact hGr _ _ _ rfl) dX9_undo_25 ?_
      refine G_getI hC fl_X9_151 (by first | assumption | rfl) (by omega) dX9_undo_28 ?_
      exact G_iret hC hQ dX9_undo_31 ⟨_, rfl, by rw [hud]; exact hst.1.1, by rw [hud]; exact z1, z2, PX.refl⟩
    · exact absurd c7 (by omega)
set_option maxHeartbeats 4000000 in
set_option maxRecDepth 100000 in
theorem c_X9_back {l : Launch} {c : Nat} {S : AS} {M : Mem} {P : PMem} (hI : CIv c M P S)  : CtI l yX9_back cX9_back 1 (some .int) 1 21 45 [vR 0] M P (cR c M P (backS S).2 (backS S).1) := by
  refine Ct_of (own := RX9) (L := [vR 0]) (by decide) rfl rfl (Nat.le_of_ble_eq_true rfl) (fun X Y hl hC hQ => ?_)
  obtain ⟨⟨hGr, wa, wb, hw, hwa, hwb⟩, hS, hA, hT, hF, N, lq, hL⟩ := id hI
  obtain ⟨s1, ⟨s2, s3, s4, s5, s6, s7, s8⟩, ⟨s9, s10, s11, s12⟩, s13, s14, s15, s16, s17, s18⟩ := id hS
  obtain ⟨m1, m2, m3, m4⟩ := id s14
  obtain ⟨f1, f2, f3, f4⟩ := id hF
  obtain ⟨t1, t2, t3, t4, t5⟩ := id hT
  obtain ⟨i1, i2, i3, i4⟩ := id hL.1
  obtain ⟨hR0, hR2, hR6, hRr, hRr1, hRk, hRw⟩ := id i1
  have hT8 : isT 8 := Or.inr (Or.inl rfl)
  have hlo := m1.lo
  by_cases hk : sKe S = []
  · refine G_al0 hC dX9_back_0 ?_
    refine G_getR hC fl_X9_89 (by first | assumption | rfl) (by omega) (by first | assumption | exact hGr _ _ _ rfl) dX9_back_1 ?_
    refine G_getI hC fl_X9_151 (by first | assumption | rfl) (by omega) dX9_back_4 ?_
    rw [f4.1, hk, show (([] : List MO).length : Int) = 0 from rfl]
    refine G_if_ne (tgt := 13) hC dX9_back_7 (by decide) (by omega) (fun c7 => ?_) (fun c7 => ?_)
    · exact absurd rfl c7
    · refine G_bipush hC dX9_back_10 (by decide) ?_
      exact G_iret hC hQ dX9_back_12 ⟨_, rfl, by unfold backS; rw [hk]; rfl, by unfold backS; rw [hk]; exact hI, eqx.refl, PX.refl⟩
  · obtain ⟨ys, x, hy⟩ := last_ex hk
    have hst := StR_pop (M := M) (m := 41) (ms := ys) (x := x) (by omega) (by rw [← hy]; exact f4)
    have hlen : (sKe S).length = ys.length + 1 := by rw [hy]; simp
    have hul : M 41 0 = (ys.length : Int) + 1 := by rw [f4.1, hlen]; omega
    have ex : ∀ a, a ≠ 37 → ∀ b, upM (taM M 41 ys.length) 37 0 0 a b = taM M 41 ys.length a b := fun a ha b => upM_ne ha b
    obtain ⟨z1, z2⟩ := CIv_mo (M' := upM (taM M 41 ys.length) 37 0 0) (nw := x) (un := []) (ke := ys) hI (Nat.le_refl c) (fun a ha b => by unfold sMo at ha; rw [ex a (by omega)]; exact taM_o (by omega) (by omega) b) ⟨⟨(ex 36 (by omega) 0).trans hst.2.1, (ex 36 (by omega) 1).trans hst.2.2.1, (ex 36 (by omega) 2).trans hst.2.2.2⟩, by rw [upM_nej (by omega), taM_o (by omega) (by omega), ex 41 (by omega), taM_1 (by omega)]; exact f2, ⟨by rw [upM_self]; rfl, fun k x hk => by
      have hk' : ([] : List MO)[k]? = some x := hk
      simp at hk'⟩, StR_x hst.1 (fun a ha b => ex a (by omega) b)⟩ (s16 x (by rw [hy]; simp)) (fun m hm => by cases hm) (fun m hm => s16 m (by rw [hy]; simp [hm])) (by simp) (by omega)
    have hud : backS S = ((ys.length : Int), (S.1, S.2.1, x, [], ys)) := by
      unfold backS
      rw [hy]
      simp
    refine G_al0 hC dX9_back_0 ?_
    refine G_getR hC fl_X9_89 (by first | assumption | rfl) (by omega) (by first | assumption | exact hGr _ _ _ rfl) dX9_back_1 ?_
    refine G_getI hC fl_X9_151 (by first | assumption | rfl) (by omega) dX9_back_4 ?_
    rw [hul]
    refine G_if_ne (tgt := 13) hC dX9_back_7 (by decide) (by omega) (fun c7 => ?_) (fun c7 => ?_)
    · refine G_al0 hC dX9_back_13 ?_
      refine G_getR hC fl_X9_89 (by first | assumption | rfl) (by omega) (by first | assumption | exact hGr _ _ _ rfl) dX9_back_14 ?_
      refine G_al0 hC dX9_back_17 ?_
      refine G_getR hC fl_X9_76 (by first | assumption | rfl) (by omega) (by first | assumption | exact hGr _ _ _ rfl) dX9_back_18 ?_
      refine G_callVV hC (c_X2_takeLast (n := ys.length) hGr (Or.inr rfl) hul (by omega)) mv_X9_193 (by first | assumption | rfl) (by omega) (by decide) rfl (by decide) dX9_back_21 rfl (Nat.le_of_ble_eq_true rfl) rfl (fun M21 P21 h21 => ?_)
      obtain ⟨rfl, rfl⟩ := h21
      refine G_al0 hC dX9_back_24 ?_
      refine G_getR hC fl_X9_85 (by first | assumption | rfl) (by omega) (by first | assumption | exact hGr _ _ _ rfl) dX9_back_25 ?_
      refine G_iconst hC dX9_back_28 ?_
      refine G_putI hC fl_X9_151 (by first | assumption | rfl) (by omega) dX9_back_29 ?_
      refine G_al0 hC dX9_back_32 ?_
      refine G_getR hC fl_X9_89 (by first | assumption | rfl) (by omega) (by first | assumption | exact hGr _ _ _ rfl) dX9_back_33 ?_
      refine G_getI hC fl_X9_151 (by first | assumption | rfl) (by omega) dX9_back_36 ?_
      exact G_iret hC hQ dX9_back_39 ⟨_, rfl, by rw [hud, upM_ne (by omega)]; exact hst.1.1, by rw [hud]; exact z1, z2, PX.refl⟩
    · exact absurd c7 (by omega)
def newM (S : AS) (i j : Nat) : MO := (aft (sT S) (sNow S).1 i j, fun g => (sNow S).2.1 g ||| hbit (aft (sT S) (sNow S).1 i j) g, (sNow S).2.2 + hnd (sT S) i j)
def pushU (S : AS) : List MO := (if (sUn S).length < 8 then sUn S else (sUn S).tail) ++ [sNow S]
noncomputable def askS (S : AS) (i j : Int) : Int × AS := by classical exact if isG S i ∧ isG S j then (if can (sT S) (sNow S).1 i.toNat j.toNat then (dnF (aft (sT S) (sNow S).1 i.toNat j.toNat) i.toNat, (S.1, S.2.1, newM S i.toNat j.toNat, pushU S, sKe S)) else (-2, S)) else (-1, S)
theorem pushU_ok {c : Nat} {S : AS} (hS : SOK c S) : (∀ m ∈ pushU S, mOK c (tn (sT S)) (sF0 S) m) ∧ (pushU S).length ≤ 8 := by
  obtain ⟨s1, -, -, -, s14, s15, s16, s17, s18⟩ := hS
  unfold pushU
  constructor
  · intro m hm
    rcases List.mem_append.mp hm with q | q
    · split at q
      · exact s15 m q
      · exact s15 m (List.mem_of_mem_tail q)
    · rw [List.mem_singleton.mp q]; exact s14
  · split <;> simp <;> omega
theorem pushU_R {c : Nat} {M : Mem} {S : AS} (hS : SOK c S) (hF : pF M S) : ∃ M', ((( sUn S).length < 8 ∧ M' = adM M 37 (sUn S).length) ∨ ((sUn S).length = 8 ∧ M' = adM (doM M 37 8) 37 7)) ∧ StR M' 37 (pushU S) ∧ M' 37 1 = 8 ∧ (∀ a, (a < 37 ∨ 40 < a) → ∀ b, M' a b = M a b) := by
  obtain ⟨f1, f2, f3, f4⟩ := hF
  have hl := hS.2.2.2.2.2.2.2.1
  unfold pushU
  by_cases h : (sUn S).length < 8
  · refine ⟨_, Or.inl ⟨h, rfl⟩, ?_, by rw [adM_1]; exact f2.1, fun a ha b => adM_o (by omega) b⟩
    rw [if_pos h]
    exact StR_add (by omega) f3 f1.1 f1.2.1 f1.2.2
  · have h8 : (sUn S).length = 8 := by omega
    refine ⟨_, Or.inr ⟨h8, rfl⟩, ?_, by rw [adM_1, doM_1]; exact f2.1, fun a ha b => by rw [adM_o (by omega), doM_o (by omega)]⟩
    rw [if_neg h]
    have h1 := StR_drop f3 (by omega)
    rw [h8] at h1
    have h2 := StR_add (x := sNow S) (by omega) h1 (by rw [doM_o (by omega)]; exact f1.1) (by rw [doM_o (by omega)]; exact f1.2.1) (by rw [doM_o (by omega)]; exact f1.2.2)
    have h7 : (sUn S).tail.length = 7 := by simp; omega
    rw [h7] at h2
    exact h2
set_option maxHeartbeats 4000000 in
set_option maxRecDepth 100000 in
theorem c_X9_ask {l : Launch} {c : Nat} {S : AS} {i j : Int} {M : Mem} {P : PMem} (hI : CIv c M P S) (hi : i32r i) (hj0 : i32r j) : CtI l yX9_ask cX9_ask 3 (some .int) 3 78 45 [vR 0, vI i, vI j] M P (cR (c + 1) M P (askS S i j).2 (askS S i j).1) := by
  refine Ct_of (own := RX9) (L := [vR 0, vI i, vI j]) (by decide) rfl rfl (Nat.le_of_ble_eq_true rfl) (fun X Y hl hC hQ => ?_)
  obtain ⟨⟨hGr, wa, wb, hw, hwa, hwb⟩, hS, hA, hT, hF, N, lq, hL⟩ := id hI
  obtain ⟨s1, ⟨s2, s3, s4, s5, s6, s7, s8⟩, ⟨s9, s10, s11, s12⟩, s13, s14, s15, s16, s17, s18⟩ := id hS
  obtain ⟨m1, m2, m3, m4⟩ := id s14
  obtain ⟨f1, f2, f3, f4⟩ := id hF
  obtain ⟨t1, t2, t3, t4, t5⟩ := id hT
  obtain ⟨i1, i2, i3, i4⟩ := id hL.1
  obtain ⟨hR0, hR2, hR6, hRr, hRr1, hRk, hRw⟩ := id i1
  have hT8 : isT 8 := Or.inr (Or.inl rfl)
  have hlo := m1.lo
  unfold i32r at *
  by_cases hg : isG S i
  · by_cases hj : isG S j
    · obtain ⟨g, rfl⟩ : ∃ g : Nat, i = (g : Int) := ⟨i.toNat, by have := hg.1; omega⟩
      obtain ⟨e, rfl⟩ : ∃ e : Nat, j = (e : Int) := ⟨j.toNat, by have := hj.1; omega⟩
      have hg2 := hg.2
      have hj2 := hj.2
      by_cases hcan : can (sT S) (sNow S).1 g e
      · have hask : askS S (g : Int) (e : Int) = (dnF (aft (sT S) (sNow S).1 g e) g, (S.1, S.2.1, newM S g e, pushU S, sKe S)) := by
          unfold askS
          rw [if_pos ⟨hg, hj⟩]
          simp only [Int.toNat_natCast]
          rw [if_pos hcan]
        obtain ⟨M1, p1, p2, p3, p4⟩ := pushU_R hS hF
        have e36 : ∀ b, M1 36 b = M 36 b := p4 36 (by omega)
        have hR1 : TabR M1 8 (sT S) := TabR_congr i1 (p4 8 (by omega)) (p4 9 (by omega)) (p4 11 (by omega))
        have hlie2 : lieOK (aft (sT S) (sNow S).1 g e) := aft_lie s6 s7 (by omega) (by omega) hcan.1 s9 m1 m2
        have hh5 := hnd_le5 (T := sT S) (i := g) (j := e) s7 (by omega) (by omega)
        have hh0 : 0 ≤ (hnd (sT S) g e : Int) := by omega
        have ho : lo64 (fun x => (sNow S).2.1 x ||| hbit (aft (sT S) (sNow S).1 g e) x) := fun x => Nat.or_lt_two_pow (n := 6) (m3 x) (hbit_lo hlie2 x)
        obtain ⟨z1, z2⟩ := CIv_mo (c' := c + 1) (M' := upM (upM (upM M1 36 0 (enc (aft (sT S) (sNow S).1 g e))) 36 1 (encH (fun x => (sNow S).2.1 x ||| hbit (aft (sT S) (sNow S).1 g e) x))) 36 2 ((sNow S).2.2 + hnd (sT S) g e)) (nw := newM S g e) (un := pushU S) (ke := sKe S) hI (by omega) (fun a ha b => by
          unfold sMo at ha
          rw [upM_ne (by omega), upM_ne (by omega), upM_ne (by omega)]; exact p4 a (by omega) b) ⟨⟨by rw [upM_nej (by omega), upM_nej (by omega), upM_self]; rfl, by rw [upM_nej (by omega), upM_self]; rfl, by rw [upM_self]; show _ = (((sNow S).2.2 + hnd (sT S) g e : Nat) : Int); omega⟩, by
            rw [upM_ne (by omega), upM_ne (by omega), upM_ne (by omega), upM_ne (by omega), upM_ne (by omega), upM_ne (by omega), p4 41 (by omega)]; exact ⟨p3, f2.2⟩, StR_x p2 (fun a ha b => by rw [upM_ne (by omega), upM_ne (by omega), upM_ne (by omega)]), StR_x f4 (fun a ha b => by rw [upM_ne (by omega), upM_ne (by omega), upM_ne (by omega)]; exact p4 a (by omega) b)⟩ ⟨hlie2, aft_AR s6 s7 (by omega) (by omega) hcan.1 m2, ho, by show (sNow S).2.2 + hnd (sT S) g e ≤ _; omega⟩ (fun m hm => ((pushU_ok hS).1 m hm).mono (by omega)) (fun m hm => (s16 m hm).mono (by omega)) (pushU_ok hS).2 s18
        rcases p1 with ⟨q1, p1⟩ | ⟨q1, p1⟩
        · refine G_al0 hC dX9_ask_0 ?_
          refine G_il1 hC dX9_ask_1 ?_
          refine G_callVI hC (c_X9_isGuest1 hI (by unfold i32r; omega) hg) mv_X9_154 (by first | assumption | rfl) (by omega) (by decide) rfl (by decide) dX9_ask_2 rfl (Nat.le_of_ble_eq_true rfl) rfl (fun z2 M2 P2 h2 => ?_)
          obtain ⟨rfl, rfl, rfl⟩ := h2
          refine G_if_eq (tgt := 16) hC dX9_ask_5 (by decide) (by omega) (fun c5 => ?_) (fun c5 => ?_)
          · exact absurd c5 (by omega)
          · refine G_al0 hC dX9_ask_8 ?_
            refine G_il2 hC dX9_ask_9 ?_
            refine G_callVI hC (c_X9_isGuest1 hI (by unfold i32r; omega) hj) mv_X9_154 (by first | assumption | rfl) (by omega) (by decide) rfl (by decide) dX9_ask_10 rfl (Nat.le_of_ble_eq_true rfl) rfl (fun z10 M10 P10 h10 => ?_)
            obtain ⟨rfl, rfl, rfl⟩ := h10
            refine G_if_ne (tgt := 18) hC dX9_ask_13 (by decide) (by omega) (fun c13 => ?_) (fun c13 => ?_)
            · refine G_al0 hC dX9_ask_18 ?_
              refine G_getR hC fl_X9_29 (by first | assumption | rfl) (by omega) (by first | assumption | exact hGr _ _ _ rfl) dX9_ask_19 ?_
              refine G_al0 hC dX9_ask_22 ?_
              refine G_getR hC fl_X9_76 (by first | assumption | rfl) (by omega) (by first | assumption | exact hGr _ _ _ rfl) dX9_ask_23 ?_
              refine G_getI hC fl_X9_137 (by first | assumption | rfl) (by omega) dX9_ask_26 ?_
              rw [f1.1]
              refine G_il1 hC dX9_ask_29 ?_
              refine G_il2 hC dX9_ask_30 ?_
              refine G_callVI hC (c_X7_canBeAsked (i := g) (j := e) hGr hT8 i1 hlo (by omega) (by omega)) mv_X9_182 (by first | assumption | rfl) (by omega) (by decide) rfl (by decide) dX9_ask_31 rfl (Nat.le_of_ble_eq_true rfl) rfl (fun z31 M31 P31 h31 => ?_)
              obtain ⟨rfl, rfl, rfl⟩ := h31
              rw [canI_1 hcan]
              refine G_if_ne (tgt := 40) hC dX9_ask_34 (by decide) (by omega) (fun c34 => ?_) (fun c34 => ?_)
              · refine G_al0 hC dX9_ask_40 ?_
                refine G_getR hC fl_X9_85 (by first | assumption | rfl) (by omega) (by first | assumption | exact hGr _ _ _ rfl) dX9_ask_41 ?_
                refine G_al0 hC dX9_ask_44 ?_
                refine G_getR hC fl_X9_76 (by first | assumption | rfl) (by omega) (by first | assumption | exact hGr _ _ _ rfl) dX9_ask_45 ?_
                refine G_callVV hC (c_X2_addLast1 (n := (sUn S).length) (r := 8) hGr (Or.inl rfl) f3.1 f2.1 q1 (by omega)) mv_X9_186 (by first | assumption | rfl) (by omega) (by decide) rfl (by decide) dX9_ask_48 rfl (Nat.le_of_ble_eq_true rfl) rfl (fun M48 P48 h48 => ?_)
                obtain ⟨q2, rfl⟩ := h48
                rw [show M48 = M1 from by rw [p1]; exact q2.symm]
                refine G_al0 hC dX9_ask_51 ?_
                refine G_getR hC fl_X9_76 (by first | assumption | rfl) (by omega) (by first | assumption | exact hGr _ _ _ rfl) dX9_ask_52 ?_
                refine G_al0 hC dX9_ask_55 ?_
                refine G_getR hC fl_X9_29 (by first | assumption | rfl) (by omega) (by first | assumption | exact hGr _ _ _ rfl) dX9_ask_56 ?_
                refine G_al0 hC dX9_ask_59 ?_
                refine G_getR hC fl_X9_76 (by first | assumption | rfl) (by omega) (by first | assumption | exact hGr _ _ _ rfl) dX9_ask_60 ?_
                refine G_getI hC fl_X9_137 (by first | assumption | rfl) (by omega) dX9_ask_63 ?_
                rw [e36, f1.1]
                refine G_il1 hC dX9_ask_66 ?_
                refine G_il2 hC dX9_ask_67 ?_
                refine G_callVI hC (c_X7_lieAfter (i := g) (j := e) hGr hT8 hR1 hlo (by omega) (by omega)) mv_X9_190 (by first | assumption | rfl) (by omega) (by decide) rfl (by decide) dX9_ask_68 rfl (Nat.le_of_ble_eq_true rfl) rfl (fun z68 M68 P68 h68 => ?_)
                obtain ⟨rfl, rfl, rfl⟩ := h68
                refine G_putI hC fl_X9_137 (by first | assumption | rfl) (by omega) dX9_ask_71 ?_
                refine G_al0 hC dX9_ask_74 ?_
                refine G_getR hC fl_X9_76 (by first | assumption | rfl) (by omega) (by first | assumption | exact hGr _ _ _ rfl) dX9_ask_75 ?_
                refine G_dup hC dX9_ask_78 rfl ?_
                refine G_getL hC fl_X9_144 (by first | assumption | rfl) (by omega) dX9_ask_79 ?_
                rw [upM_nej (by omega), e36, f1.2.1]
                refine G_al0 hC dX9_ask_82 ?_
                refine G_getR hC fl_X9_76 (by first | assumption | rfl) (by omega) (by first | assumption | exact hGr _ _ _ rfl) dX9_ask_83 ?_
                refine G_getI hC fl_X9_137 (by first | assumption | rfl) (by omega) dX9_ask_86 ?_
                rw [upM_self]
                refine G_callSL hC (c_X9_pairsOf hlie2) ms_X9_140 (by decide) rfl (by decide) dX9_ask_89 rfl (Nat.le_of_ble_eq_true rfl) rfl (fun z89 M89 P89 h89 => ?_)
                obtain ⟨rfl, rfl, rfl⟩ := h89
                refine G_lor hC dX9_ask_92 ?_
                rw [lOr_n (by have := encH_lt m3; omega) (by have := encH_lt (hbit_lo hlie2); omega), encH_or m3 (hbit_lo hlie2)]
                refine G_putL hC fl_X9_144 (by first | assumption | rfl) (by omega) dX9_ask_93 ?_
                refine G_al0 hC dX9_ask_96 ?_
                refine G_getR hC fl_X9_76 (by first | assumption | rfl) (by omega) (by first | assumption | exact hGr _ _ _ rfl) dX9_ask_97 ?_
                refine G_dup hC dX9_ask_100 rfl ?_
                refine G_getI hC fl_X9_148 (by first | assumption | rfl) (by omega) dX9_ask_101 ?_
                rw [upM_nej (by omega), upM_nej (by omega), e36, f1.2.2]
                refine G_al0 hC dX9_ask_104 ?_
                refine G_getR hC fl_X9_29 (by first | assumption | rfl) (by omega) (by first | assumption | exact hGr _ _ _ rfl) dX9_ask_105 ?_
                refine G_il1 hC dX9_ask_108 ?_
                refine G_il2 hC dX9_ask_109 ?_
                refine G_callVI hC (c_X7_stepsBetween (i := g) (j := e) hGr hT8 (TabR_congr hR1 (fun b => by rw [upM_ne (by omega), upM_ne (by omega)]) (fun b => by rw [upM_ne (by omega), upM_ne (by omega)]) (fun b => by rw [upM_ne (by omega), upM_ne (by omega)])) (by omega) (by omega)) mv_X9_178 (by first | assumption | rfl) (by omega) (by decide) rfl (by decide) dX9_ask_110 rfl (Nat.le_of_ble_eq_true rfl) rfl (fun z110 M110 P110 h110 => ?_)
                obtain ⟨rfl, rfl, rfl⟩ := h110
                refine G_iadd hC dX9_ask_113 ?_
                refine G_putI hC fl_X9_148 (by first | assumption | rfl) (by omega) dX9_ask_114 ?_
                refine G_al0 hC dX9_ask_117 ?_
                refine G_il1 hC dX9_ask_118 ?_
                refine G_callVI hC (c_X9_dishOrNone (f := aft (sT S) (sNow S).1 g e) hGr hlie2.lo (by rw [upM_nej (by omega), upM_nej (by omega), upM_self]) (by omega)) mv_X9_161 (by first | assumption | rfl) (by omega) (by decide) rfl (by decide) dX9_ask_119 rfl (Nat.le_of_ble_eq_true rfl) rfl (fun z119 M119 P119 h119 => ?_)
                obtain ⟨rfl, rfl, rfl⟩ := h119
                exact G_iret hC hQ dX9_ask_122 ⟨_, rfl, by rw [hask], by rw [hask]; exact z1, z2, PX.refl⟩
              · exact absurd c34 (by omega)
            · exact absurd c13 (by omega)
        · refine G_al0 hC dX9_ask_0 ?_
          refine G_il1 hC dX9_ask_1 ?_
          refine G_callVI hC (c_X9_isGuest1 hI (by unfold i32r; omega) hg) mv_X9_154 (by first | assumption | rfl) (by omega) (by decide) rfl (by decide) dX9_ask_2 rfl (Nat.le_of_ble_eq_true rfl) rfl (fun z2 M2 P2 h2 => ?_)
          obtain ⟨rfl, rfl, rfl⟩ := h2
          refine G_if_eq (tgt := 16) hC dX9_ask_5 (by decide) (by omega) (fun c5 => ?_) (fun c5 => ?_)
          · exact absurd c5 (by omega)
          · refine G_al0 hC dX9_ask_8 ?_
            refine G_il2 hC dX9_ask_9 ?_
            refine G_callVI hC (c_X9_isGuest1 hI (by unfold i32r; omega) hj) mv_X9_154 (by first | assumption | rfl) (by omega) (by decide) rfl (by decide) dX9_ask_10 rfl (Nat.le_of_ble_eq_true rfl) rfl (fun z10 M10 P10 h10 => ?_)
            obtain ⟨rfl, rfl, rfl⟩ := h10
            refine G_if_ne (tgt := 18) hC dX9_ask_13 (by decide) (by omega) (fun c13 => ?_) (fun c13 => ?_)
            · refine G_al0 hC dX9_ask_18 ?_
              refine G_getR hC fl_X9_29 (by first | assumption | rfl) (by omega) (by first | assumption | exact hGr _ _ _ rfl) dX9_ask_19 ?_
              refine G_al0 hC dX9_ask_22 ?_
              refine G_getR hC fl_X9_76 (by first | assumption | rfl) (by omega) (by first | assumption | exact hGr _ _ _ rfl) dX9_ask_23 ?_
              refine G_getI hC fl_X9_137 (by first | assumption | rfl) (by omega) dX9_ask_26 ?_
              rw [f1.1]
              refine G_il1 hC dX9_ask_29 ?_
              refine G_il2 hC dX9_ask_30 ?_
              refine G_callVI hC (c_X7_canBeAsked (i := g) (j := e) hGr hT8 i1 hlo (by omega) (by omega)) mv_X9_182 (by first | assumption | rfl) (by omega) (by decide) rfl (by decide) dX9_ask_31 rfl (Nat.le_of_ble_eq_true rfl) rfl (fun z31 M31 P31 h31 => ?_)
              obtain ⟨rfl, rfl, rfl⟩ := h31
              rw [canI_1 hcan]
              refine G_if_ne (tgt := 40) hC dX9_ask_34 (by decide) (by omega) (fun c34 => ?_) (fun c34 => ?_)
              · refine G_al0 hC dX9_ask_40 ?_
                refine G_getR hC fl_X9_85 (by first | assumption | rfl) (by omega) (by first | assumption | exact hGr _ _ _ rfl) dX9_ask_41 ?_
                refine G_al0 hC dX9_ask_44 ?_
                refine G_getR hC fl_X9_76 (by first | assumption | rfl) (by omega) (by first | assumption | exact hGr _ _ _ rfl) dX9_ask_45 ?_
                refine G_callVV hC (c_X2_addLast2 (n := 8) hGr (Or.inl rfl) (by rw [f3.1, q1]) f2.1 (by omega) (by omega)) mv_X9_186 (by first | assumption | rfl) (by omega) (by decide) rfl (by decide) dX9_ask_48 rfl (Nat.le_of_ble_eq_true rfl) rfl (fun M48 P48 h48 => ?_)
                obtain ⟨q2, rfl⟩ := h48
                rw [show M48 = M1 from by rw [p1]; exact q2.symm]
                refine G_al0 hC dX9_ask_51 ?_
                refine G_getR hC fl_X9_76 (by first | assumption | rfl) (by omega) (by first | assumption | exact hGr _ _ _ rfl) dX9_ask_52 ?_
                refine G_al0 hC dX9_ask_55 ?_
                refine G_getR hC fl_X9_29 (by first | assumption | rfl) (by omega) (by first | assumption | exact hGr _ _ _ rfl) dX9_ask_56 ?_
                refine G_al0 hC dX9_ask_59 ?_
                refine G_getR hC fl_X9_76 (by first | assumption | rfl) (by omega) (by first | assumption | exact hGr _ _ _ rfl) dX9_ask_60 ?_
                refine G_getI hC fl_X9_137 (by first | assumption | rfl) (by omega) dX9_ask_63 ?_
                rw [e36, f1.1]
                refine G_il1 hC dX9_ask_66 ?_
                refine G_il2 hC dX9_ask_67 ?_
                refine G_callVI hC (c_X7_lieAfter (i := g) (j := e) hGr hT8 hR1 hlo (by omega) (by omega)) mv_X9_190 (by first | assumption | rfl) (by omega) (by decide) rfl (by decide) dX9_ask_68 rfl (Nat.le_of_ble_eq_true rfl) rfl (fun z68 M68 P68 h68 => ?_)
                obtain ⟨rfl, rfl, rfl⟩ := h68
                refine G_putI hC fl_X9_137 (by first | assumption | rfl) (by omega) dX9_ask_71 ?_
                refine G_al0 hC dX9_ask_74 ?_
                refine G_getR hC fl_X9_76 (by first | assumption | rfl) (by omega) (by first | assumption | exact hGr _ _ _ rfl) dX9_ask_75 ?_
                refine G_dup hC dX9_ask_78 rfl ?_
                refine G_getL hC fl_X9_144 (by first | assumption | rfl) (by omega) dX9_ask_79 ?_
                rw [upM_nej (by omega), e36, f1.2.1]
                refine G_al0 hC dX9_ask_82 ?_
                refine G_getR hC fl_X9_76 (by first | assumption | rfl) (by omega) (by first | assumption | exact hGr _ _ _ rfl) dX9_ask_83 ?_
                refine G_getI hC fl_X9_137 (by first | assumption | rfl) (by omega) dX9_ask_86 ?_
                rw [upM_self]
                refine G_callSL hC (c_X9_pairsOf hlie2) ms_X9_140 (by decide) rfl (by decide) dX9_ask_89 rfl (Nat.le_of_ble_eq_true rfl) rfl (fun z89 M89 P89 h89 => ?_)
                obtain ⟨rfl, rfl, rfl⟩ := h89
                refine G_lor hC dX9_ask_92 ?_
                rw [lOr_n (by have := encH_lt m3; omega) (by have := encH_lt (hbit_lo hlie2); omega), encH_or m3 (hbit_lo hlie2)]
                refine G_putL hC fl_X9_144 (by first | assumption | rfl) (by omega) dX9_ask_93 ?_
                refine G_al0 hC dX9_ask_96 ?_
                refine G_getR hC fl_X9_76 (by first | assumption | rfl) (by omega) (by first | assumption | exact hGr _ _ _ rfl) dX9_ask_97 ?_
                refine G_dup hC dX9_ask_100 rfl ?_
                refine G_getI hC fl_X9_148 (by first | assumption | rfl) (by omega) dX9_ask_101 ?_
                rw [upM_nej (by omega), upM_nej (by omega), e36, f1.2.2]
                refine G_al0 hC dX9_ask_104 ?_
                refine G_getR hC fl_X9_29 (by first | assumption | rfl) (by omega) (by first | assumption | exact hGr _ _ _ rfl) dX9_ask_105 ?_
                refine G_il1 hC dX9_ask_108 ?_
                refine G_il2 hC dX9_ask_109 ?_
                refine G_callVI hC (c_X7_stepsBetween (i := g) (j := e) hGr hT8 (TabR_congr hR1 (fun b => by rw [upM_ne (by omega), upM_ne (by omega)]) (fun b => by rw [upM_ne (by omega), upM_ne (by omega)]) (fun b => by rw [upM_ne (by omega), upM_ne (by omega)])) (by omega) (by omega)) mv_X9_178 (by first | assumption | rfl) (by omega) (by decide) rfl (by decide) dX9_ask_110 rfl (Nat.le_of_ble_eq_true rfl) rfl (fun z110 M110 P110 h110 => ?_)
                obtain ⟨rfl, rfl, rfl⟩ := h110
                refine G_iadd hC dX9_ask_113 ?_
                refine G_putI hC fl_X9_148 (by first | assumption | rfl) (by omega) dX9_ask_114 ?_
                refine G_al0 hC dX9_ask_117 ?_
                refine G_il1 hC dX9_ask_118 ?_
                refine G_callVI hC (c_X9_dishOrNone (f := aft (sT S) (sNow S).1 g e) hGr hlie2.lo (by rw [upM_nej (by omega), upM_nej (by omega), upM_self]) (by omega)) mv_X9_161 (by first | assumption | rfl) (by omega) (by decide) rfl (by decide) dX9_ask_119 rfl (Nat.le_of_ble_eq_true rfl) rfl (fun z119 M119 P119 h119 => ?_)
                obtain ⟨rfl, rfl, rfl⟩ := h119
                exact G_iret hC hQ dX9_ask_122 ⟨_, rfl, by rw [hask], by rw [hask]; exact z1, z2, PX.refl⟩
              · exact absurd c34 (by omega)
            · exact absurd c13 (by omega)
      · have hask : askS S (g : Int) (e : Int) = (-2, S) := by
          unfold askS
          rw [if_pos ⟨hg, hj⟩]
          simp only [Int.toNat_natCast]
          rw [if_neg hcan]
        refine G_al0 hC dX9_ask_0 ?_
        refine G_il1 hC dX9_ask_1 ?_
        refine G_callVI hC (c_X9_isGuest1 hI (by unfold i32r; omega) hg) mv_X9_154 (by first | assumption | rfl) (by omega) (by decide) rfl (by decide) dX9_ask_2 rfl (Nat.le_of_ble_eq_true rfl) rfl (fun z2 M2 P2 h2 => ?_)
        obtain ⟨rfl, rfl, rfl⟩ := h2
        refine G_if_eq (tgt := 16) hC dX9_ask_5 (by decide) (by omega) (fun c5 => ?_) (fun c5 => ?_)
        · exact absurd c5 (by omega)
        · refine G_al0 hC dX9_ask_8 ?_
          refine G_il2 hC dX9_ask_9 ?_
          refine G_callVI hC (c_X9_isGuest1 hI (by unfold i32r; omega) hj) mv_X9_154 (by first | assumption | rfl) (by omega) (by decide) rfl (by decide) dX9_ask_10 rfl (Nat.le_of_ble_eq_true rfl) rfl (fun z10 M10 P10 h10 => ?_)
          obtain ⟨rfl, rfl, rfl⟩ := h10
          refine G_if_ne (tgt := 18) hC dX9_ask_13 (by decide) (by omega) (fun c13 => ?_) (fun c13 => ?_)
          · refine G_al0 hC dX9_ask_18 ?_
            refine G_getR hC fl_X9_29 (by first | assumption | rfl) (by omega) (by first | assumption | exact hGr _ _ _ rfl) dX9_ask_19 ?_
            refine G_al0 hC dX9_ask_22 ?_
            refine G_getR hC fl_X9_76 (by first | assumption | rfl) (by omega) (by first | assumption | exact hGr _ _ _ rfl) dX9_ask_23 ?_
            refine G_getI hC fl_X9_137 (by first | assumption | rfl) (by omega) dX9_ask_26 ?_
            rw [f1.1]
            refine G_il1 hC dX9_ask_29 ?_
            refine G_il2 hC dX9_ask_30 ?_
            refine G_callVI hC (c_X7_canBeAsked (i := g) (j := e) hGr hT8 i1 hlo (by omega) (by omega)) mv_X9_182 (by first | assumption | rfl) (by omega) (by decide) rfl (by decide) dX9_ask_31 rfl (Nat.le_of_ble_eq_true rfl) rfl (fun z31 M31 P31 h31 => ?_)
            obtain ⟨rfl, rfl, rfl⟩ := h31
            rw [canI_0 hcan]
            refine G_if_ne (tgt := 40) hC dX9_ask_34 (by decide) (by omega) (fun c34 => ?_) (fun c34 => ?_)
            · exact absurd rfl c34
            · refine G_bipush hC dX9_ask_37 (by decide) ?_
              exact G_iret hC hQ dX9_ask_39 ⟨_, rfl, by rw [hask], by rw [hask]; exact hI.mono (by omega), eqx.refl, PX.refl⟩
          · exact absurd c13 (by omega)
    · refine G_al0 hC dX9_ask_0 ?_
      refine G_il1 hC dX9_ask_1 ?_
      refine G_callVI hC (c_X9_isGuest1 hI (by unfold i32r; omega) hg) mv_X9_154 (by first | assumption | rfl) (by omega) (by decide) rfl (by decide) dX9_ask_2 rfl (Nat.le_of_ble_eq_true rfl) rfl (fun z2 M2 P2 h2 => ?_)
      obtain ⟨rfl, rfl, rfl⟩ := h2
      refine G_if_eq (tgt := 16) hC dX9_ask_5 (by decide) (by omega) (fun c5 => ?_) (fun c5 => ?_)
      · exact absurd c5 (by omega)
      · refine G_al0 hC dX9_ask_8 ?_
        refine G_il2 hC dX9_ask_9 ?_
        refine G_callVI hC (c_X9_isGuest0 hI (by unfold i32r; omega) hj) mv_X9_154 (by first | assumption | rfl) (by omega) (by decide) rfl (by decide) dX9_ask_10 rfl (Nat.le_of_ble_eq_true rfl) rfl (fun z10 M10 P10 h10 => ?_)
        obtain ⟨rfl, rfl, rfl⟩ := h10
        refine G_if_ne (tgt := 18) hC dX9_ask_13 (by decide) (by omega) (fun c13 => ?_) (fun c13 => ?_)
        · exact absurd rfl c13
        · refine G_iconst hC dX9_ask_16 ?_
          exact G_iret hC hQ dX9_ask_17 ⟨_, rfl, by unfold askS; rw [if_neg (fun z => hj z.2)], by unfold askS; rw [if_neg (fun z => hj z.2)]; exact hI.mono (by omega), eqx.refl, PX.refl⟩
  · refine G_al0 hC dX9_ask_0 ?_
    refine G_il1 hC dX9_ask_1 ?_
    refine G_callVI hC (c_X9_isGuest0 hI (by unfold i32r; omega) hg) mv_X9_154 (by first | assumption | rfl) (by omega) (by decide) rfl (by decide) dX9_ask_2 rfl (Nat.le_of_ble_eq_true rfl) rfl (fun z2 M2 P2 h2 => ?_)
    obtain ⟨rfl, rfl, rfl⟩ := h2
    refine G_if_eq (tgt := 16) hC dX9_ask_5 (by decide) (by omega) (fun c5 => ?_) (fun c5 => ?_)
    · refine G_iconst hC dX9_ask_16 ?_
      exact G_iret hC hQ dX9_ask_17 ⟨_, rfl, by unfold askS; rw [if_neg (fun z => hg z.1)], by unfold askS; rw [if_neg (fun z => hg z.1)]; exact hI.mono (by omega), eqx.refl, PX.refl⟩
    · exact absurd rfl c5
