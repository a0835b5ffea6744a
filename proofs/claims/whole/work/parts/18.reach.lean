theorem isSe.ne {se mv tb oo len : Nat} (h : isSe se mv tb oo len) : (oo + 2 < se ∨ se < oo) ∧ mv + 1 ≠ se ∧ (mv + 1 < oo ∨ oo + 2 < mv + 1) ∧ mv ≠ se ∧ 14 < mv ∧ (mv < oo ∨ oo + 2 < mv) := by unfold isSe at h; omega
theorem SeB.st {M : Mem} {se oo N o : Nat} {lq : Nat → Nat} {bl : List BE} (h : SeB M se oo N lq bl o) (hN : N ≤ 720) (hinj : ∀ a b, a < N → b < N → lq a = lq b → a = b) {l : Nat} (hl : l < 720) : -1 ≤ M (oo + 1) l ∧ M (oo + 1) l ≤ 720 := by
  have hlen := h.len
  obtain ⟨a1, a2, a3, a4, a5, a6⟩ := h
  by_cases hx : ∃ e ∈ bl, l < N ∧ lq l = e.1
  · obtain ⟨e, he, h1, h2⟩ := hx
    obtain ⟨k, hk⟩ := List.getElem?_of_mem he
    obtain ⟨l', b1, b2, b3, b4, b5, b6, b7⟩ := a5 k e hk
    have : l' = l := hinj l' l b1 h1 (by rw [b2, h2])
    subst this
    have := (List.getElem?_eq_some_iff.mp hk).1
    omega
  · rw [a6 l hl (fun e he h1 q => hx ⟨e, he, h1, q⟩)]; omega
theorem bnx_mem {T : TB} {e : BE} {i j : Nat} {bl : List BE} {o : Nat} {x : BE} (h : bl[o]? = some x) : (bnx T e i j bl)[o]? = some x := by
  unfold bnx
  split
  · rw [List.getElem?_append_left (List.getElem?_eq_some_iff.mp h).1]; exact h
  · exact h
theorem bJ_mem {T : TB} {e : BE} {i : Nat} {o : Nat} {x : BE} : ∀ c j (bl : List BE), bl[o]? = some x → (bJ T e i c j bl)[o]? = some x
  | 0, _, _, h => h
  | c + 1, j, bl, h => bJ_mem c (j + 1) _ (bnx_mem h)
theorem bI_mem {T : TB} {e : BE} {o : Nat} {x : BE} : ∀ c i (bl : List BE), bl[o]? = some x → (bI T e c i bl)[o]? = some x
  | 0, _, _, h => h
  | c + 1, i, bl, h => bI_mem c (i + 1) _ (bJ_mem _ _ _ h)
theorem SeB_bnx {M : Mem} {se oo N o : Nat} {lq : Nat → Nat} {bl : List BE} {T : TB} {e : BE} {l i j : Nat} (hse : oo + 2 < se ∨ se < oo) (hI : LyI M N lq) (hcl : Clo T N lq) (h : SeB M se oo N lq bl o) (he : bl[o]? = some e) (hl : l < N) (hle : lq l = e.1) (hi : i < 6) (hj : j < 6) : SeB (rcM M se oo (mvN M T e.1 i j) ((e.2.1 + 1 : Nat) : Int) ((if e.2.1 = 0 then 10 * i + j else e.2.2 : Nat) : Int)) se oo N lq (bnx T e i j bl) o := by
  have hN := hI.2.2.1
  by_cases hc : can T (dgf e.1) i j
  · obtain ⟨l', hl', hq'⟩ := hcl l i j hl (by rw [hle]; exact hc)
    rw [hle] at hq'
    have hmv : mvN M T e.1 i j = l' := by
      rw [mvN_1 hc, ← hq', (hI.2.2.2.1 l' hl').2]; omega
    rw [hmv]
    by_cases hm : ∀ x ∈ bl, x.1 ≠ enc (aft T (dgf e.1) i j)
    · have hb : bnx T e i j bl = bl ++ [(lq l', e.2.1 + 1, if e.2.1 = 0 then 10 * i + j else e.2.2)] := by
        unfold bnx; rw [if_pos ⟨hc, hm⟩, hq']
      rw [hb]
      obtain ⟨l2, b1, b2, b3, b4, b5, b6, b7⟩ := h.2.2.2.2.1 o e he
      have hol := (List.getElem?_eq_some_iff.mp he).1
      exact SeB_new hN hse h hl' (fun a b ha hb e => hI.inj ha hb e) (fun x hx => by rw [hq']; exact hm x hx) (by omega) (by split <;> omega)
    · have hb : bnx T e i j bl = bl := by unfold bnx; rw [if_neg (fun q => hm q.2)]
      rw [hb]
      have hne : M (oo + 1) l' ≠ -1 := by
        intro q
        refine hm (fun x hx hxq => ?_)
        obtain ⟨k, hk⟩ := List.getElem?_of_mem hx
        obtain ⟨l2, b1, b2, b3, b4, b5, b6⟩ := h.2.2.2.2.1 k x hk
        have : l2 = l' := hI.inj b1 hl' (by rw [b2, hxq, hq'])
        subst this
        omega
      unfold rcM
      rw [if_neg (fun q => hne q.2)]
      exact h
  · have hb : bnx T e i j bl = bl := by unfold bnx; rw [if_neg (fun q => hc q.1)]
    rw [hb, mvN_0 hc]
    unfold rcM
    rw [if_neg (by omega)]
    exact h
set_option maxHeartbeats 4000000 in
set_option maxRecDepth 100000 in
theorem c_X5_reach {l : Launch} {se mv tb oo len l0 : Nat} {dp op : Int} {M : Mem} {P : PMem} (hGr : Gr P) (hse : isSe se mv tb oo len) (hl0 : l0 ≤ 1023) (hr : 0 ≤ M se 5 ∧ M se 5 ≤ 720) (hst : ∀ l, l < 720 → -1 ≤ M (oo + 1) l ∧ M (oo + 1) l ≤ 720) : CtV l yX5_reach cX5_reach 4 none 1 22 45 [vR se, vI l0, vI dp, vI op] M P (pV (rcM M se oo l0 dp op) P) := by
  refine Ct_of (own := RX5) (L := [vR se, vI l0, vI dp, vI op]) (by decide) rfl rfl (Nat.le_of_ble_eq_true rfl) (fun X Y hl hC hQ => ?_)
  obtain ⟨ss0, ss1, ss2, ss3, sb0, sb2, sp0, sp2, sp3, sp4⟩ := isSe_all hGr hse
  obtain ⟨sn1, sn2, sn3, sn4, sn5, sn6⟩ := hse.ne
  refine G_il1 hC dX5_reach_0 ?_
  refine G_if_lt (tgt := 57) hC dX5_reach_1 (by decide) (by omega) (fun c1 => ?_) (fun c1 => ?_)
  · exact absurd c1 (by omega)
  · refine G_il1 hC dX5_reach_4 ?_
    refine G_sipush hC dX5_reach_5 (by decide) ?_
    refine G_icmp_ge (tgt := 57) hC dX5_reach_8 (by decide) (by omega) (by omega) (fun c8 => ?_) (fun c8 => ?_)
    · exact G_vret hC hQ dX5_reach_57 ⟨rfl, by
  unfold rcM
  first
    | (rw [if_pos (show l0 < 720 ∧ M (oo + 1) l0 = -1 from ⟨by omega, by rw [show ((l0 : Nat) : Int).toNat = l0 by omega] at c18; exact c18⟩), show ((l0 : Nat) : Int).toNat = l0 by omega, show putM (upM (upM M (oo + 1) l0 dp) (oo + 2) l0 op) oo 720 (M se 5) l0 se 5 = M se 5 from by unfold putM; split <;> (first | rw [upM_ne (show se ≠ oo by omega), upM_ne (show se ≠ oo + 2 by omega), upM_ne (show se ≠ oo + 1 by omega)] | rw [upM_ne (show se ≠ oo + 2 by omega), upM_ne (show se ≠ oo + 1 by omega)])]; done)
    | (rw [if_neg (fun q => by have := q.1; omega)]; done)
    | (rw [if_neg (fun q => c18 (by rw [show ((l0 : Nat) : Int).toNat = l0 by omega]; exact q.2))]; done), rfl⟩
    · refine G_al0 hC dX5_reach_11 ?_
      refine G_getR hC fl_X5_19 (by first | assumption | rfl) (by omega) (by first | assumption | exact hGr _ _ _ rfl) dX5_reach_12 ?_
      refine G_il1 hC dX5_reach_15 ?_
      refine G_iaload hC (by first | assumption | rfl) (by omega) (by omega) dX5_reach_16 ?_
      refine G_iconst hC dX5_reach_17 ?_
      refine G_icmp_ne (tgt := 57) hC dX5_reach_18 (by decide) (by have := hst l0 (by omega); rw [show ((l0 : Nat) : Int).toNat = l0 by omega]; omega) (by omega) (fun c18 => ?_) (fun c18 => ?_)
      · exact G_vret hC hQ dX5_reach_57 ⟨rfl, by
  unfold rcM
  first
    | (rw [if_pos (show l0 < 720 ∧ M (oo + 1) l0 = -1 from ⟨by omega, by rw [show ((l0 : Nat) : Int).toNat = l0 by omega] at c18; exact c18⟩), show ((l0 : Nat) : Int).toNat = l0 by omega, show putM (upM (upM M (oo + 1) l0 dp) (oo + 2) l0 op) oo 720 (M se 5) l0 se 5 = M se 5 from by unfold putM; split <;> (first | rw [upM_ne (show se ≠ oo by omega), upM_ne (show se ≠ oo + 2 by omega), upM_ne (show se ≠ oo + 1 by omega)] | rw [upM_ne (show se ≠ oo + 2 by omega), upM_ne (show se ≠ oo + 1 by omega)])]; done)
    | (rw [if_neg (fun q => by have := q.1; omega)]; done)
    | (rw [if_neg (fun q => c18 (by rw [show ((l0 : Nat) : Int).toNat = l0 by omega]; exact q.2))]; done), rfl⟩
      · refine G_al0 hC dX5_reach_21 ?_
        refine G_getR hC fl_X5_19 (by first | assumption | rfl) (by omega) (by first | assumption | exact hGr _ _ _ rfl) dX5_reach_22 ?_
        refine G_il1 hC dX5_reach_25 ?_
        refine G_il2 hC dX5_reach_26 ?_
        refine G_iastore hC (by first | assumption | rfl) (by omega) (by omega) dX5_reach_27 ?_
        refine G_al0 hC dX5_reach_28 ?_
        refine G_getR hC fl_X5_22 (by first | assumption | rfl) (by omega) (by first | assumption | exact hGr _ _ _ rfl) dX5_reach_29 ?_
        refine G_il1 hC dX5_reach_32 ?_
        refine G_il3 hC dX5_reach_33 ?_
        refine G_iastore hC (by first | assumption | rfl) (by omega) (by omega) dX5_reach_34 ?_
        refine G_al0 hC dX5_reach_35 ?_
        refine G_getR hC fl_X5_15 (by first | assumption | rfl) (by omega) (by first | assumption | exact hGr _ _ _ rfl) dX5_reach_36 ?_
        refine G_al0 hC dX5_reach_39 ?_
        refine G_getI hC fl_X5_29 (by first | assumption | rfl) (by omega) dX5_reach_40 ?_
        rw [upM_ne (show se ≠ oo + 2 by omega), upM_ne (show se ≠ oo + 1 by omega)]
        refine G_il1 hC dX5_reach_43 ?_
        refine G_callSV hC (c_X9_put ss1 (by omega) (by omega)) ms_X5_75 (by decide) rfl (by decide) dX5_reach_44 rfl (Nat.le_of_ble_eq_true rfl) rfl (fun M44 P44 h44 => ?_)
        obtain ⟨rfl, rfl⟩ := h44
        refine G_al0 hC dX5_reach_47 ?_
        refine G_dup hC dX5_reach_48 rfl ?_
        refine G_getI hC fl_X5_29 (by first | assumption | rfl) (by omega) dX5_reach_49 ?_
        refine G_iconst hC dX5_reach_52 ?_
        refine G_iadd hC dX5_reach_53 ?_
        refine G_putI hC fl_X5_29 (by first | assumption | rfl) (by omega) dX5_reach_54 ?_
        exact G_vret hC hQ dX5_reach_57 ⟨rfl, by
  unfold rcM
  first
    | (rw [if_pos (show l0 < 720 ∧ M (oo + 1) l0 = -1 from ⟨by omega, by rw [show ((l0 : Nat) : Int).toNat = l0 by omega] at c18; exact c18⟩), show ((l0 : Nat) : Int).toNat = l0 by omega, show putM (upM (upM M (oo + 1) l0 dp) (oo + 2) l0 op) oo 720 (M se 5) l0 se 5 = M se 5 from by unfold putM; split <;> (first | rw [upM_ne (show se ≠ oo by omega), upM_ne (show se ≠ oo + 2 by omega), upM_ne (show se ≠ oo + 1 by omega)] | rw [upM_ne (show se ≠ oo + 2 by omega), upM_ne (show se ≠ oo + 1 by omega)])]; done)
    | (rw [if_neg (fun q => by have := q.1; omega)]; done)
    | (rw [if_neg (fun q => c18 (by rw [show ((l0 : Nat) : Int).toNat = l0 by omega]; exact q.2))]; done), rfl⟩
set_option maxHeartbeats 4000000 in
set_option maxRecDepth 100000 in
theorem c_X5_stepsAs {l : Launch} {se mv tb oo len k l0 : Nat} {M : Mem} {P : PMem} (hGr : Gr P) (hse : isSe se mv tb oo len) (hk : k < 720) (hkl : M oo k = (l0 : Int)) (hl0 : l0 < 720) : CtI l yX5_stepsAs cX5_stepsAs 2 (some .int) 1 21 45 [vR se, vI k] M P (pI (M (oo + 1) l0) M P) := by
  refine Ct_of (own := RX5) (L := [vR se, vI k]) (by decide) rfl rfl (Nat.le_of_ble_eq_true rfl) (fun X Y hl hC hQ => ?_)
  obtain ⟨ss0, ss1, ss2, ss3, sb0, sb2, sp0, sp2, sp3, sp4⟩ := isSe_all hGr hse
  obtain ⟨sn1, sn2, sn3, sn4, sn5, sn6⟩ := hse.ne
  refine G_al0 hC dX5_stepsAs_0 ?_
  refine G_getR hC fl_X5_19 (by first | assumption | rfl) (by omega) (by first | assumption | exact hGr _ _ _ rfl) dX5_stepsAs_1 ?_
  refine G_al0 hC dX5_stepsAs_4 ?_
  refine G_getR hC fl_X5_15 (by first | assumption | rfl) (by omega) (by first | assumption | exact hGr _ _ _ rfl) dX5_stepsAs_5 ?_
  refine G_il1 hC dX5_stepsAs_8 ?_
  refine G_callSI hC (c_atN ss1 (by omega) hk) ms_X5_63 (by decide) rfl (by decide) dX5_stepsAs_9 rfl (Nat.le_of_ble_eq_true rfl) rfl (fun z9 M9 P9 h9 => ?_)
  obtain ⟨rfl, rfl, rfl⟩ := h9
  rw [hkl]
  refine G_callSI hC (c_atN ss2 (by omega) hl0) ms_X5_63 (by decide) rfl (by decide) dX5_stepsAs_12 rfl (Nat.le_of_ble_eq_true rfl) rfl (fun z12 M12 P12 h12 => ?_)
  obtain ⟨rfl, rfl, rfl⟩ := h12
  exact G_iret hC hQ dX5_stepsAs_15 ⟨_, rfl, rfl, rfl, rfl⟩
def foM (M : Mem) (se : Nat) : Mem := upM (upM (upM M se 1 1023) se 5 0) se 6 0
set_option maxHeartbeats 4000000 in
set_option maxRecDepth 100000 in
theorem c_X5_forget {l : Launch} {se mv tb oo len : Nat} {M : Mem} {P : PMem} (hGr : Gr P) (hse : isSe se mv tb oo len) : CtV l yX5_forget cX5_forget 1 none 0 0 45 [vR se] M P (pV (foM M se) P) := by
  refine Ct_of (own := RX5) (L := [vR se]) (by decide) rfl rfl (Nat.le_of_ble_eq_true rfl) (fun X Y hl hC hQ => ?_)
  obtain ⟨ss0, ss1, ss2, ss3, sb0, sb2, sp0, sp2, sp3, sp4⟩ := isSe_all hGr hse
  obtain ⟨sn1, sn2, sn3, sn4, sn5, sn6⟩ := hse.ne
  refine G_al0 hC dX5_forget_0 ?_
  refine G_sipush hC dX5_forget_1 (by decide) ?_
  refine G_putI hC fl_X5_9 (by first | assumption | rfl) (by omega) dX5_forget_4 ?_
  refine G_al0 hC dX5_forget_7 ?_
  refine G_iconst hC dX5_forget_8 ?_
  refine G_putI hC fl_X5_29 (by first | assumption | rfl) (by omega) dX5_forget_9 ?_
  refine G_al0 hC dX5_forget_12 ?_
  refine G_iconst hC dX5_forget_13 ?_
  refine G_putI hC fl_X5_32 (by first | assumption | rfl) (by omega) dX5_forget_14 ?_
  exact G_vret hC hQ dX5_forget_17 ⟨rfl, rfl, rfl⟩
def stM (M : Mem) (se oo l0 : Nat) : Mem := rcM (flM (upM (foM M se) se 1 l0) (oo + 1) (-1) 720) se oo l0 0 0
set_option maxHeartbeats 4000000 in
set_option maxRecDepth 100000 in
theorem c_X5_startSame {l : Launch} {se mv tb oo len l0 : Nat} {M : Mem} {P : PMem} (hGr : Gr P) (hse : isSe se mv tb oo len) (hl0 : l0 ≤ 1023) (hs : M se 1 = (l0 : Int)) : CtV l yX5_startFrom cX5_startFrom 2 none 2 45 45 [vR se, vI l0] M P (pV M P) := by
  refine Ct_of (own := RX5) (L := [vR se, vI l0]) (by decide) rfl rfl (Nat.le_of_ble_eq_true rfl) (fun X Y hl hC hQ => ?_)
  obtain ⟨ss0, ss1, ss2, ss3, sb0, sb2, sp0, sp2, sp3, sp4⟩ := isSe_all hGr hse
  obtain ⟨sn1, sn2, sn3, sn4, sn5, sn6⟩ := hse.ne
  refine G_il1 hC dX5_startFrom_0 ?_
  refine G_al0 hC dX5_startFrom_1 ?_
  refine G_getI hC fl_X5_9 (by first | assumption | rfl) (by omega) dX5_startFrom_2 ?_
  refine G_icmp_ne (tgt := 9) hC dX5_startFrom_5 (by decide) (by omega) (by omega) (fun c5 => ?_) (fun c5 => ?_)
  · exact absurd hs.symm c5
  · exact G_vret hC hQ dX5_startFrom_8 ⟨rfl, rfl, rfl⟩
set_option maxHeartbeats 4000000 in
set_option maxRecDepth 100000 in
theorem c_X5_startNew {l : Launch} {se mv tb oo len l0 : Nat} {M : Mem} {P : PMem} (hGr : Gr P) (hse : isSe se mv tb oo len) (hl0 : l0 ≤ 1023) (hs : ¬ M se 1 = (l0 : Int)) (hs2 : 0 ≤ M se 1 ∧ M se 1 ≤ 1023) : CtV l yX5_startFrom cX5_startFrom 2 none 2 45 45 [vR se, vI l0] M P (pV (stM M se oo l0) P) := by
  refine Ct_of (own := RX5) (L := [vR se, vI l0]) (by decide) rfl rfl (Nat.le_of_ble_eq_true rfl) (fun X Y hl hC hQ => ?_)
  obtain ⟨ss0, ss1, ss2, ss3, sb0, sb2, sp0, sp2, sp3, sp4⟩ := isSe_all hGr hse
  obtain ⟨sn1, sn2, sn3, sn4, sn5, sn6⟩ := hse.ne
  refine G_il1 hC dX5_startFrom_0 ?_
  refine G_al0 hC dX5_startFrom_1 ?_
  refine G_getI hC fl_X5_9 (by first | assumption | rfl) (by omega) dX5_startFrom_2 ?_
  refine G_icmp_ne (tgt := 9) hC dX5_startFrom_5 (by decide) (by omega) (by omega) (fun c5 => ?_) (fun c5 => ?_)
  · refine G_al0 hC dX5_startFrom_9 ?_
    refine G_callVV hC (c_X5_forget hGr hse) mv_X5_35 (by first | assumption | rfl) (by omega) (by decide) rfl (by decide) dX5_startFrom_10 rfl (Nat.le_of_ble_eq_true rfl) rfl (fun M10 P10 h10 => ?_)
    obtain ⟨rfl, rfl⟩ := h10
    refine G_al0 hC dX5_startFrom_13 ?_
    refine G_il1 hC dX5_startFrom_14 ?_
    refine G_putI hC fl_X5_9 (by first | assumption | rfl) (by omega) dX5_startFrom_15 ?_
    refine G_al0 hC dX5_startFrom_18 ?_
    refine G_getR hC fl_X5_19 (by first | assumption | rfl) (by omega) (by first | assumption | exact hGr _ _ _ rfl) dX5_startFrom_19 ?_
    refine G_iconst hC dX5_startFrom_22 ?_
    refine G_callSV hC (c_fillI ss2 (by omega)) ms_X5_38 (by decide) rfl (by decide) dX5_startFrom_23 rfl (Nat.le_of_ble_eq_true rfl) rfl (fun M23 P23 h23 => ?_)
    obtain ⟨rfl, rfl⟩ := h23
    refine G_al0 hC dX5_startFrom_26 ?_
    refine G_il1 hC dX5_startFrom_27 ?_
    refine G_iconst hC dX5_startFrom_28 ?_
    refine G_iconst hC dX5_startFrom_29 ?_
    refine G_callVV hC (c_X5_reach (dp := 0) (op := 0) hGr hse hl0 (by unfold flM; rw [if_neg (by omega), upM_nej (by decide)]; unfold foM; rw [upM_nej (by decide), upM_self]; omega) (fun l hl => by unfold flM; rw [if_pos ⟨rfl, hl⟩]; omega)) mv_X5_44 (by first | assumption | rfl) (by omega) (by decide) rfl (by decide) dX5_startFrom_30 rfl (Nat.le_of_ble_eq_true rfl) rfl (fun M30 P30 h30 => ?_)
    obtain ⟨rfl, rfl⟩ := h30
    exact G_vret hC hQ dX5_startFrom_33 ⟨rfl, rfl, rfl⟩
  · exact absurd c5.symm hs
theorem stM_B {M : Mem} {se oo N l0 : Nat} {lq : Nat → Nat} (hN : N ≤ 720) (hse : oo + 2 < se ∨ se < oo) (hinj : ∀ a b, a < N → b < N → lq a = lq b → a = b) (hl : l0 < N) : SeB (stM M se oo l0) se oo N lq [(lq l0, 0, 0)] 0 ∧ stM M se oo l0 se 1 = (l0 : Int) ∧ eqx (seS se oo) M (stM M se oo l0) := by
  have h0 : SeB (flM (upM (foM M se) se 1 l0) (oo + 1) (-1) 720) se oo N lq [] 0 := by
    refine ⟨?_, ?_, by simp, fun k k' e e' hk => by simp at hk, fun k e hk => by simp at hk, fun l hl _ => by unfold flM; rw [if_pos ⟨rfl, hl⟩]⟩
    · unfold flM; rw [if_neg (by omega), upM_nej (by decide)]; unfold foM; rw [upM_nej (by decide), upM_self]; simp
    · unfold flM; rw [if_neg (by omega), upM_nej (by decide)]; unfold foM; rw [upM_self]; simp
  refine ⟨SeB_new (dp := 0) (op := 0) hN hse h0 hl hinj (fun e he => by simp at he) (by simp) (by omega), ?_, ?_⟩
  · have h1 : flM (upM (foM M se) se 1 l0) (oo + 1) (-1) 720 se 1 = (l0 : Int) := by
      unfold flM; rw [if_neg (by omega), upM_self]
    unfold stM rcM
    split
    · rw [upM_nej (by decide)]
      unfold putM
      split
      · rw [upM_ne (by omega), upM_ne (by omega), upM_ne (by omega)]; exact h1
      · rw [upM_ne (by omega), upM_ne (by omega)]; exact h1
    · exact h1
  · refine eqx.trans (M' := flM (upM (foM M se) se 1 l0) (oo + 1) (-1) 720) (fun a ha b => ?_) rcM_eqx
    have h1 : a ≠ se := fun q => ha (Or.inl q)
    have h3 : a ≠ oo + 1 := fun q => ha (Or.inr (Or.inr (Or.inl q)))
    unfold flM
    rw [if_neg (by omega), upM_ne h1]
    unfold foM
    rw [upM_ne h1, upM_ne h1, upM_ne h1]
/-- when a search that looks for its k-th lie below a limit goes no further -/
def stopB (k : Nat) (lim : Int) (bl : List BE) (o : Nat) : Prop := ¬ (o < bl.length ∧ bl.length ≤ k ∧ ∃ e : BE, bl[o]? = some e ∧ (e.2.1 : Int) < lim - 1)
def resB (N : Nat) (lq : Nat → Nat) (k : Nat) (lim : Int) (bl : List BE) (r : Int) : Prop := (∃ (e : BE) (l : Nat), bl[k]? = some e ∧ (e.2.1 : Int) < lim ∧ l < N ∧ lq l = e.1 ∧ r = (l : Int)) ∨ (r = 1023 ∧ ∀ e : BE, bl[k]? = some e → lim ≤ (e.2.1 : Int))
def raQ (M : Mem) (P : PMem) (se mv tb oo len N : Nat) (T : TB) (lq : Nat → Nat) (bl : List BE) (o k : Nat) (lim : Int) : Int → Mem → PMem → Prop := fun r M' P' => P = P' ∧ ∃ (m : Nat), SeB M' se oo N lq (bXn T m (bl, o)).1 (bXn T m (bl, o)).2 ∧ SI M' mv tb len T N lq ∧ eqx (seX se mv oo) M M' ∧ M' se 1 = M se 1 ∧ stopB k lim (bXn T m (bl, o)).1 (bXn T m (bl, o)).2 ∧ resB N lq k lim (bXn T m (bl, o)).1 r
theorem seS_seX {se mv oo : Nat} (a : Nat) (h : seS se oo a) : seX se mv oo a := by
  rcases h with h | h | h | h
  · exact Or.inl h
  · exact Or.inr (Or.inl h)
  · exact Or.inr (Or.inr (Or.inl h))
  · exact Or.inr (Or.inr (Or.inr (Or.inl h)))
theorem SeB_up6 {M : Mem} {se oo N o : Nat} {lq : Nat → Nat} {bl : List BE} (hse : oo + 2 < se ∨ se < oo) (h : SeB M se oo N lq bl o) (ho : o < bl.length) : SeB (upM M se 6 ((o : Int) + 1)) se oo N lq bl (o + 1) := by
  obtain ⟨a1, a2, a3, a4, a5, a6⟩ := h
  refine ⟨by rw [upM_nej (by decide)]; exact a1, by rw [upM_self]; simp, by omega, a4, fun k e hk => ?_, fun l hl hb => by rw [upM_ne (by omega)]; exact a6 l hl hb⟩
  obtain ⟨l, b1, b2, b3, b4, b5, b6⟩ := a5 k e hk
  exact ⟨l, b1, b2, by rw [upM_ne (by omega)]; exact b3, by rw [upM_ne (by omega)]; exact b4, by rw [upM_ne (by omega)]; exact b5, b6⟩
theorem bXn_s {T : TB} : ∀ m (s : List BE × Nat), bXn T (m + 1) s = bX T (bXn T m s)
  | 0, _ => rfl
  | m + 1, s => by
    show bXn T (m + 1) (bX T s) = _
    rw [bXn_s m (bX T s)]
    rfl
theorem rcM_1 {M : Mem} {se oo l : Nat} {dp op : Int} (hse : oo + 2 < se ∨ se < oo) : rcM M se oo l dp op se 1 = M se 1 := by
  unfold rcM; split
  · rw [upM_nej (by decide)]
    unfold putM
    split
    · rw [upM_ne (by omega), upM_ne (by omega), upM_ne (by omega)]
    · rw [upM_ne (by omega), upM_ne (by omega)]
  · rfl
set_option maxHeartbeats 4000000 in
set_option maxRecDepth 100000 in
theorem c_X5_reachedAs {l : Launch} {se mv tb oo len N k o0 : Nat} {T : TB} {lq : Nat → Nat} {bl : List BE} {lim : Int} {M : Mem} {P : PMem} (hGr : Gr P) (hse : isSe se mv tb oo len) (hS : SI M mv tb len T N lq) (hB : SeB M se oo N lq bl o0) (hk0 : k ≤ 720) (hlim : 0 ≤ lim ∧ lim ≤ 1000000) : CtI l yX5_reachedAs cX5_reachedAs 11 (some .int) 4 108 45 [vR se, vI k, vI lim] M P (raQ M P se mv tb oo len N T lq bl o0 k lim) := by
  refine Ct_of (own := RX5) (L := [vR se, vI k, vI lim, vX 1, vX 1, vX 1, vX 1, vX 1, vX 1, vX 1, vX 1]) (by decide) rfl rfl (Nat.le_of_ble_eq_true rfl) (fun X Y hl hC hQ => ?_)
  obtain ⟨ss0, ss1, ss2, ss3, sb0, sb2, sp0, sp2, sp3, sp4⟩ := isSe_all hGr hse
  obtain ⟨sn1, sn2, sn3, sn4, sn5, sn6⟩ := hse.ne
  have hmv := hse.mv
  obtain ⟨vs0, vs1, vst, vT, vp0, vp1, vp2, vb1, vbt, vlen, vb14⟩ := isMv_all hGr hmv
  have hR := hS.1
  obtain ⟨hR0, hR2, hR6, hRr, hRr1, hRk, hRw⟩ := id hR
  have hlJ : ∀ (o l0 i : Nat) (e : BE) (bl0' : List BE) (dv : Int), l0 < N → lq l0 = e.1 → i < tn T → dv = ((e.2.1 + 1 : Nat) : Int) → e.2.1 ≤ 720 → (∀ (M2 : Mem) (bl2 : List BE) (iv rv jv : Int) (x10 : AV), SI M2 mv tb len T N lq → SeB M2 se oo N lq bl2 o → bl2[o]? = some e → eqx (seX se mv oo) M M2 → M2 se 1 = M se 1 → bl2 = bJ T e i (tn T) 0 bl0' → iv = (i : Int) + 1 → G X Y 82 [vR se, vI k, vI lim, vI (tn T), vI l0, vI dv, vI iv, vL rv, vX 1, vI jv, x10] [] M2 P) → ∀ (c j : Nat) (M1 : Mem) (bl1 : List BE) (iv rv jv : Int) (x10 : AV), j + c = tn T → SI M1 mv tb len T N lq → SeB M1 se oo N lq bl1 o → bl1[o]? = some e → eqx (seX se mv oo) M M1 → M1 se 1 = M se 1 → bJ T e i c j bl1 = bJ T e i (tn T) 0 bl0' → iv = (i : Int) → jv = (j : Int) → rv = (rrC (fun j => mvN M1 T (M1 13 l0).toNat i j) 6 : Int) → G X Y 104 [vR se, vI k, vI lim, vI (tn T), vI l0, vI dv, vI iv, vL rv, vX 1, vI jv, x10] [] M1 P := by
    intro o l0 i e bl0' dv hl0 hle hi hdv hd7 hnext c
    induction c with
    | zero =>
      intro j M1 bl1 iv rv jv x10 hj hS1 hB1 he hx1 h11 hbl e1 e2 e3
      subst e1; subst e2; subst hdv
      refine G_il9 hC dX5_reachedAs_104 ?_
      refine G_il3 hC dX5_reachedAs_106 ?_
      refine G_icmp_ge (tgt := 159) hC dX5_reachedAs_107 (by decide) (by omega) (by omega) (fun c107 => ?_) (fun c107 => ?_)
      · refine G_inc6 hC dX5_reachedAs_159 rfl ?_
        refine G_goto (tgt := 82) hC dX5_reachedAs_162 (by decide) ?_
        exact hnext M1 bl1 _ _ _ _ hS1 hB1 he hx1 h11 hbl rfl
      · exact absurd c107 (by omega)
    | succ c ih =>
      intro j M1 bl1 iv rv jv x10 hj hS1 hB1 he hx1 h11 hbl e1 e2 e3
      subst e1; subst e2; subst e3; subst hdv
      obtain ⟨lx, b1, b2, b3, b4, b5, b6, b7⟩ := hB1.2.2.2.2.1 o e he
      have hlx : lx = l0 := hS1.2.1.inj b1 hl0 (by rw [b2, hle])
      subst hlx
      have hN7 := hS1.2.1.2.2.1
      have hlqM : (M1 13 lx).toNat = e.1 := by rw [(hS1.2.1.2.2.2.1 lx hl0).1, hle]; omega
      rw [hlqM]
      have hto : ∀ j, (fun j => mvN M1 T e.1 i j) j ≤ 1023 := fun j => mvN_le hS1.2.1.1
      have hlen := hB1.len
      have hst := fun (l : Nat) (h : l < 720) => hB1.st hN7 (fun a b ha hb e => hS1.2.1.inj ha hb e) h
      have hBn := SeB_bnx sn1 hS1.2.1 hS1.2.2.2 hB1 he hl0 hle (show i < 6 by omega) (show j < 6 by omega)
      have hgo : ∀ (ov : Int) (x10 : AV), ov = ((if e.2.1 = 0 then 10 * i + j else e.2.2 : Nat) : Int) → ∀ (x10' : AV), G X Y 104 [vR se, vI k, vI lim, vI (tn T), vI lx, vI ((e.2.1 + 1 : Nat) : Int), vI i, vL (rrC (fun j => mvN M1 T e.1 i j) 6), vX 1, vI ((j : Int) + 1), x10'] [] (rcM M1 se oo (mvN M1 T e.1 i j) ((e.2.1 + 1 : Nat) : Int) ov) P := by
        intro ov x10 hov x10'
        subst hov
        have hx2 : eqx (seS se oo) M1 (rcM M1 se oo (mvN M1 T e.1 i j) ((e.2.1 + 1 : Nat) : Int) ((if e.2.1 = 0 then 10 * i + j else e.2.2 : Nat) : Int)) := rcM_eqx
        have g13 : ∀ b, rcM M1 se oo (mvN M1 T e.1 i j) ((e.2.1 + 1 : Nat) : Int) ((if e.2.1 = 0 then 10 * i + j else e.2.2 : Nat) : Int) 13 b = M1 13 b := hx2 13 (fun z => by unfold isSe at hse; rcases z with z | z | z | z <;> omega)
        have g14 : ∀ b, rcM M1 se oo (mvN M1 T e.1 i j) ((e.2.1 + 1 : Nat) : Int) ((if e.2.1 = 0 then 10 * i + j else e.2.2 : Nat) : Int) 14 b = M1 14 b := hx2 14 (fun z => by unfold isSe at hse; rcases z with z | z | z | z <;> omega)
        refine ih (j + 1) _ (bnx T e i j bl1) _ _ _ _ (by omega) (SI_seS hse hS1 hx2) hBn (bnx_mem he) (hx1.trans (hx2.mono seS_seX)) (by rw [rcM_1 sn1]; exact h11) hbl rfl (by omega) ?_
        rw [g13, hlqM]
        simp only [mvN_congr g13 g14]
      refine G_il9 hC dX5_reachedAs_104 ?_
      refine G_il3 hC dX5_reachedAs_106 ?_
      refine G_icmp_ge (tgt := 159) hC dX5_reachedAs_107 (by decide) (by omega) (by omega) (fun c107 => ?_) (fun c107 => ?_)
      · exact absurd c107 (by omega)
      · refine G_il5 hC dX5_reachedAs_110 ?_
        refine G_iconst hC dX5_reachedAs_112 ?_
        refine G_icmp_ne (tgt := 127) hC dX5_reachedAs_113 (by decide) (by omega) (by omega) (fun c113 => ?_) (fun c113 => ?_)
        · refine G_al0 hC dX5_reachedAs_127 ?_
          refine G_getR hC fl_X5_22 (by first | assumption | rfl) (by omega) (by first | assumption | exact hGr _ _ _ rfl) dX5_reachedAs_128 ?_
          refine G_il4 hC dX5_reachedAs_131 ?_
          refine G_callSI hC (c_atN ss3 (by omega) (by omega)) ms_X5_63 (by decide) rfl (by decide) dX5_reachedAs_133 rfl (Nat.le_of_ble_eq_true rfl) rfl (fun z133 M133 P133 h133 => ?_)
          obtain ⟨rfl, rfl, rfl⟩ := h133
          refine G_is10 hC dX5_reachedAs_136 rfl ?_
          refine G_al0 hC dX5_reachedAs_138 ?_
          refine G_ll7 hC dX5_reachedAs_139 ?_
          refine G_il9 hC dX5_reachedAs_141 ?_
          refine G_callSI hC (c_X3_target hto (by omega)) ms_X5_71 (by decide) rfl (by decide) dX5_reachedAs_143 rfl (Nat.le_of_ble_eq_true rfl) rfl (fun z143 M143 P143 h143 => ?_)
          obtain ⟨rfl, rfl, rfl⟩ := h143
          refine G_il5 hC dX5_reachedAs_146 ?_
          refine G_il10 hC dX5_reachedAs_148 ?_
          refine G_callVV hC (c_X5_reach hGr hse (hto j) (by have := hB1.1; omega) hst) mv_X5_44 (by first | assumption | rfl) (by omega) (by decide) rfl (by decide) dX5_reachedAs_150 rfl (Nat.le_of_ble_eq_true rfl) rfl (fun M150 P150 h150 => ?_)
          obtain ⟨rfl, rfl⟩ := h150
          refine G_inc9 hC dX5_reachedAs_153 rfl ?_
          refine G_goto (tgt := 104) hC dX5_reachedAs_156 (by decide) ?_
          first
            | exact hgo _ x10 (by rw [if_pos (by omega)]; omega) _
            | exact hgo _ x10 (by rw [if_neg (by omega), b5]) _
        · refine G_bipush hC dX5_reachedAs_116 (by decide) ?_
          refine G_il6 hC dX5_reachedAs_118 ?_
          refine G_imul hC dX5_reachedAs_120 ?_
          refine G_il9 hC dX5_reachedAs_121 ?_
          refine G_iadd hC dX5_reachedAs_123 ?_
          refine G_goto (tgt := 136) hC dX5_reachedAs_124 (by decide) ?_
          refine G_is10 hC dX5_reachedAs_136 rfl ?_
          refine G_al0 hC dX5_reachedAs_138 ?_
          refine G_ll7 hC dX5_reachedAs_139 ?_
          refine G_il9 hC dX5_reachedAs_141 ?_
          refine G_callSI hC (c_X3_target hto (by omega)) ms_X5_71 (by decide) rfl (by decide) dX5_reachedAs_143 rfl (Nat.le_of_ble_eq_true rfl) rfl (fun z143 M143 P143 h143 => ?_)
          obtain ⟨rfl, rfl, rfl⟩ := h143
          refine G_il5 hC dX5_reachedAs_146 ?_
          refine G_il10 hC dX5_reachedAs_148 ?_
          refine G_callVV hC (c_X5_reach hGr hse (hto j) (by have := hB1.1; omega) hst) mv_X5_44 (by first | assumption | rfl) (by omega) (by decide) rfl (by decide) dX5_reachedAs_150 rfl (Nat.le_of_ble_eq_true rfl) rfl (fun M150 P150 h150 => ?_)
          obtain ⟨rfl, rfl⟩ := h150
          refine G_inc9 hC dX5_reachedAs_153 rfl ?_
          refine G_goto (tgt := 104) hC dX5_reachedAs_156 (by decide) ?_
          first
            | exact hgo _ x10 (by rw [if_pos (by omega)]; omega) _
            | exact hgo _ x10 (by rw [if_neg (by omega), b5]) _
  have hlI : ∀ (o l0 : Nat) (e : BE) (bl0' : List BE) (dv : Int), l0 < N → lq l0 = e.1 → dv = ((e.2.1 + 1 : Nat) : Int) → e.2.1 ≤ 720 → (∀ (M2 : Mem) (bl2 : List BE) (iv : Int) (x7 x8 x9 x10 : AV), SI M2 mv tb len T N lq → SeB M2 se oo N lq bl2 o → bl2[o]? = some e → eqx (seX se mv oo) M M2 → M2 se 1 = M se 1 → bl2 = bI T e (tn T) 0 bl0' → G X Y 165 [vR se, vI k, vI lim, vI (tn T), vI l0, vI dv, vI iv, x7, x8, x9, x10] [] M2 P) → ∀ (c i : Nat) (M1 : Mem) (bl1 : List BE) (iv : Int) (x7 x8 x9 x10 : AV), i + c = tn T → SI M1 mv tb len T N lq → SeB M1 se oo N lq bl1 o → bl1[o]? = some e → eqx (seX se mv oo) M M1 → M1 se 1 = M se 1 → bI T e c i bl1 = bI T e (tn T) 0 bl0' → iv = (i : Int) → G X Y 82 [vR se, vI k, vI lim, vI (tn T), vI l0, vI dv, vI iv, x7, x8, x9, x10] [] M1 P := by
    intro o l0 e bl0' dv hl0 hle hdv hd7 hnext c
    induction c with
    | zero =>
      intro i M1 bl1 iv x7 x8 x9 x10 hi hS1 hB1 he hx1 h11 hbl e1
      subst e1; subst hdv
      refine G_il6 hC dX5_reachedAs_82 ?_
      refine G_il3 hC dX5_reachedAs_84 ?_
      refine G_icmp_ge (tgt := 165) hC dX5_reachedAs_85 (by decide) (by omega) (by omega) (fun c85 => ?_) (fun c85 => ?_)
      · exact hnext M1 bl1 _ _ _ _ _ hS1 hB1 he hx1 h11 hbl
      · exact absurd c85 (by omega)
    | succ c ih =>
      intro i M1 bl1 iv x7 x8 x9 x10 hi hS1 hB1 he hx1 h11 hbl e1
      subst e1
      have hN7 := hS1.2.1.2.2.1
      obtain ⟨hS2, hx2⟩ := SI_ro (k := l0) (i := i) hmv hS1 (by omega) (by omega)
      have q2 : ∀ a, a ≠ mv + 1 → ∀ b, roM M1 mv len T l0 i a b = M1 a b := fun a h => hx2 a h
      have hB2 : SeB (roM M1 mv len T l0 i) se oo N lq bl1 o := SeB_congr hB1 (q2 se (by omega)) (q2 oo (by omega)) (q2 (oo + 1) (by omega)) (q2 (oo + 2) (by omega))
      refine G_il6 hC dX5_reachedAs_82 ?_
      refine G_il3 hC dX5_reachedAs_84 ?_
      refine G_icmp_ge (tgt := 165) hC dX5_reachedAs_85 (by decide) (by omega) (by omega) (fun c85 => ?_) (fun c85 => ?_)
      · exact absurd c85 (by omega)
      · refine G_al0 hC dX5_reachedAs_88 ?_
        refine G_getR hC fl_X5_25 (by first | assumption | rfl) (by omega) (by first | assumption | exact hGr _ _ _ rfl) dX5_reachedAs_89 ?_
        refine G_il4 hC dX5_reachedAs_92 ?_
        refine G_il6 hC dX5_reachedAs_94 ?_
        refine G_callVL hC (c_X3_rowOf hGr hmv hS1.1 hS1.2.1.1 (by omega) (by omega) (hS1.2.2.1 l0 i (by omega) (by omega))) mv_X5_67 (by first | assumption | rfl) (by omega) (by decide) rfl (by decide) dX5_reachedAs_96 rfl (Nat.le_of_ble_eq_true rfl) rfl (fun z96 M96 P96 h96 => ?_)
        obtain ⟨rfl, rfl, rfl⟩ := h96
        refine G_ls7 hC dX5_reachedAs_99 rfl ?_
        refine G_iconst hC dX5_reachedAs_101 ?_
        refine G_is9 hC dX5_reachedAs_102 rfl ?_
        exact hlJ o l0 i e bl1 dv hl0 hle (by omega) hdv hd7 (fun M2 bl2 iv rv jv x10 g1 g2 g3 g4 g5 g6 g7 => ih (i + 1) M2 bl2 _ _ _ _ _ (by omega) g1 g2 g3 g4 g5 (by rw [g6]; exact hbl) (by omega)) (tn T) 0 _ bl1 _ _ _ _ (by omega) hS2 hB2 he (hx1.trans (hx2.mono (fun a h => Or.inr (Or.inr (Or.inr (Or.inr h)))))) (by rw [q2 se (by omega)]; exact h11) rfl rfl rfl (by rw [q2 13 (by omega)]; simp only [mvN_congr (q2 13 (by omega)) (q2 14 (by omega))])
  have hlO : ∀ (c o : Nat) (bl1 : List BE) (M1 : Mem) (x4 x5 x6 x7 x8 x9 x10 : AV), 721 ≤ o + c → SI M1 mv tb len T N lq → SeB M1 se oo N lq bl1 o → eqx (seX se mv oo) M M1 → M1 se 1 = M se 1 → (∃ m, bXn T m (bl, o0) = (bl1, o)) → G X Y 11 [vR se, vI k, vI lim, vI (tn T), x4, x5, x6, x7, x8, x9, x10] [] M1 P := by
    intro c
    induction c with
    | zero =>
      intro o bl1 M1 x4 x5 x6 x7 x8 x9 x10 hc hS1 hB1 hx1 h11 hm
      have h1 := hB1.len
      have h2 := hS1.2.1.2.2.1
      have h3 := hB1.2.2.1
      omega
    | succ c ih =>
      intro o bl1 M1 x4 x5 x6 x7 x8 x9 x10 hc hS1 hB1 hx1 h11 hm
      have hN7 := hS1.2.1.2.2.1
      have hlen := hB1.len
      have hB1' := hB1
      obtain ⟨a1, a2, a3, a4, a5, a6⟩ := hB1'
      have fin : ∀ (hstop : stopB k lim bl1 o) (x4 x5 x6 x7 x8 x9 x10 : AV), G X Y 178 [vR se, vI k, vI lim, vI (tn T), x4, x5, x6, x7, x8, x9, x10] [] M1 P := by
        intro hstop x4 x5 x6 x7 x8 x9 x10
        obtain ⟨m, hm⟩ := hm
        have hq : ∀ r : Int, resB N lq k lim bl1 r → raQ M P se mv tb oo len N T lq bl o0 k lim r M1 P := fun r hr => ⟨rfl, m, by rw [hm]; exact hB1, hS1, hx1, h11, by rw [hm]; exact hstop, by rw [hm]; exact hr⟩
        by_cases hk : k < bl1.length
        · obtain ⟨l1, b1, b2, b3, b4, b5, b6, b7⟩ := a5 k bl1[k] (List.getElem?_eq_getElem hk)
          refine G_il1 hC dX5_reachedAs_178 ?_
          refine G_al0 hC dX5_reachedAs_179 ?_
          refine G_getI hC fl_X5_29 (by first | assumption | rfl) (by omega) dX5_reachedAs_180 ?_
          refine G_icmp_ge (tgt := 206) hC dX5_reachedAs_183 (by decide) (by omega) (by omega) (fun c183 => ?_) (fun c183 => ?_)
          · exact absurd c183 (by omega)
          · refine G_al0 hC dX5_reachedAs_186 ?_
            refine G_il1 hC dX5_reachedAs_187 ?_
            refine G_callVI hC (c_X5_stepsAs hGr hse (by omega) b3 (by omega)) mv_X5_59 (by first | assumption | rfl) (by omega) (by decide) rfl (by decide) dX5_reachedAs_188 rfl (Nat.le_of_ble_eq_true rfl) rfl (fun z188 M188 P188 h188 => ?_)
            obtain ⟨rfl, rfl, rfl⟩ := h188
            refine G_il2 hC dX5_reachedAs_191 ?_
            refine G_icmp_ge (tgt := 206) hC dX5_reachedAs_192 (by decide) (by omega) (by omega) (fun c192 => ?_) (fun c192 => ?_)
            · refine G_sipush hC dX5_reachedAs_206 (by decide) ?_
              exact G_iret hC hQ dX5_reachedAs_209 ⟨_, rfl, hq _ (by
  first
    | exact Or.inl ⟨bl1[k], l1, List.getElem?_eq_getElem hk, by omega, b1, b2, b3⟩
    | exact Or.inr ⟨rfl, fun e he => by rw [List.getElem?_eq_getElem hk] at he; cases he; omega⟩)⟩
            · refine G_al0 hC dX5_reachedAs_195 ?_
              refine G_getR hC fl_X5_15 (by first | assumption | rfl) (by omega) (by first | assumption | exact hGr _ _ _ rfl) dX5_reachedAs_196 ?_
              refine G_il1 hC dX5_reachedAs_199 ?_
              refine G_callSI hC (c_atN ss1 (by omega) (by omega)) ms_X5_63 (by decide) rfl (by decide) dX5_reachedAs_200 rfl (Nat.le_of_ble_eq_true rfl) rfl (fun z200 M200 P200 h200 => ?_)
              obtain ⟨rfl, rfl, rfl⟩ := h200
              refine G_goto (tgt := 209) hC dX5_reachedAs_203 (by decide) ?_
              exact G_iret hC hQ dX5_reachedAs_209 ⟨_, rfl, hq _ (by
  first
    | exact Or.inl ⟨bl1[k], l1, List.getElem?_eq_getElem hk, by omega, b1, b2, b3⟩
    | exact Or.inr ⟨rfl, fun e he => by rw [List.getElem?_eq_getElem hk] at he; cases he; omega⟩)⟩
        · 
          refine G_il1 hC dX5_reachedAs_178 ?_
          refine G_al0 hC dX5_reachedAs_179 ?_
          refine G_getI hC fl_X5_29 (by first | assumption | rfl) (by omega) dX5_reachedAs_180 ?_
          refine G_icmp_ge (tgt := 206) hC dX5_reachedAs_183 (by decide) (by omega) (by omega) (fun c183 => ?_) (fun c183 => ?_)
          · refine G_sipush hC dX5_reachedAs_206 (by decide) ?_
            exact G_iret hC hQ dX5_reachedAs_209 ⟨_, rfl, hq _ (Or.inr ⟨rfl, fun e he => absurd (List.getElem?_eq_some_iff.mp he).1 hk⟩)⟩
          · exact absurd c183 (by omega)
      by_cases ho : o < bl1.length
      · obtain ⟨l1, b1, b2, b3, b4, b5, b6, b7⟩ := a5 o bl1[o] (List.getElem?_eq_getElem ho)
        have h155 : ∀ (M2 : Mem) (bl2 : List BE) (x4 x5 x6 x7 x8 x9 x10 : AV), SeB M2 se oo N lq bl2 o → G X Y 11 [vR se, vI k, vI lim, vI (tn T), x4, x5, x6, x7, x8, x9, x10] [] (upM M2 se 6 ((o : Int) + 1)) P → G X Y 165 [vR se, vI k, vI lim, vI (tn T), x4, x5, x6, x7, x8, x9, x10] [] M2 P := by
          intro M2 bl2 x4 x5 x6 x7 x8 x9 x10 g2 hg
          refine G_al0 hC dX5_reachedAs_165 ?_
          refine G_dup hC dX5_reachedAs_166 rfl ?_
          refine G_getI hC fl_X5_32 (by first | assumption | rfl) (by omega) dX5_reachedAs_167 ?_
          rw [g2.2.1]
          refine G_iconst hC dX5_reachedAs_170 ?_
          refine G_iadd hC dX5_reachedAs_171 ?_
          refine G_putI hC fl_X5_32 (by first | assumption | rfl) (by omega) dX5_reachedAs_172 ?_
          refine G_goto (tgt := 11) hC dX5_reachedAs_175 (by decide) ?_
          exact hg
        refine G_al0 hC dX5_reachedAs_11 ?_
        refine G_getI hC fl_X5_32 (by first | assumption | rfl) (by omega) dX5_reachedAs_12 ?_
        refine G_sipush hC dX5_reachedAs_15 (by decide) ?_
        refine G_icmp_ge (tgt := 178) hC dX5_reachedAs_18 (by decide) (by omega) (by omega) (fun c18 => ?_) (fun c18 => ?_)
        · exact absurd c18 (by omega)
        · refine G_al0 hC dX5_reachedAs_21 ?_
          refine G_getI hC fl_X5_32 (by first | assumption | rfl) (by omega) dX5_reachedAs_22 ?_
          refine G_al0 hC dX5_reachedAs_25 ?_
          refine G_getI hC fl_X5_29 (by first | assumption | rfl) (by omega) dX5_reachedAs_26 ?_
          refine G_icmp_ge (tgt := 178) hC dX5_reachedAs_29 (by decide) (by omega) (by omega) (fun c29 => ?_) (fun c29 => ?_)
          · exact absurd c29 (by omega)
          · refine G_al0 hC dX5_reachedAs_32 ?_
            refine G_getI hC fl_X5_29 (by first | assumption | rfl) (by omega) dX5_reachedAs_33 ?_
            refine G_il1 hC dX5_reachedAs_36 ?_
            refine G_icmp_gt (tgt := 178) hC dX5_reachedAs_37 (by decide) (by omega) (by omega) (fun c37 => ?_) (fun c37 => ?_)
            · exact fin (fun q => by
                obtain ⟨q1, q2, e, q3, q4⟩ := q
                rw [List.getElem?_eq_getElem ho] at q3
                cases q3
                omega) _ _ _ _ _ _ _
            · refine G_al0 hC dX5_reachedAs_40 ?_
              refine G_al0 hC dX5_reachedAs_41 ?_
              refine G_getI hC fl_X5_32 (by first | assumption | rfl) (by omega) dX5_reachedAs_42 ?_
              rw [a2]
              refine G_callVI hC (c_X5_stepsAs hGr hse (by omega) b3 (by omega)) mv_X5_59 (by first | assumption | rfl) (by omega) (by decide) rfl (by decide) dX5_reachedAs_45 rfl (Nat.le_of_ble_eq_true rfl) rfl (fun z45 M45 P45 h45 => ?_)
              obtain ⟨rfl, rfl, rfl⟩ := h45
              refine G_il2 hC dX5_reachedAs_48 ?_
              refine G_iconst hC dX5_reachedAs_49 ?_
              refine G_isub hC dX5_reachedAs_50 ?_
              refine G_icmp_ge (tgt := 178) hC dX5_reachedAs_51 (by decide) (by omega) (by omega) (fun c51 => ?_) (fun c51 => ?_)
              · exact fin (fun q => by
                  obtain ⟨q1, q2, e, q3, q4⟩ := q
                  rw [List.getElem?_eq_getElem ho] at q3
                  cases q3
                  omega) _ _ _ _ _ _ _
              · refine G_al0 hC dX5_reachedAs_54 ?_
                refine G_getR hC fl_X5_15 (by first | assumption | rfl) (by omega) (by first | assumption | exact hGr _ _ _ rfl) dX5_reachedAs_55 ?_
                refine G_al0 hC dX5_reachedAs_58 ?_
                refine G_getI hC fl_X5_32 (by first | assumption | rfl) (by omega) dX5_reachedAs_59 ?_
                rw [a2]
                refine G_callSI hC (c_atN ss1 (by omega) (by omega)) ms_X5_63 (by decide) rfl (by decide) dX5_reachedAs_62 rfl (Nat.le_of_ble_eq_true rfl) rfl (fun z62 M62 P62 h62 => ?_)
                obtain ⟨rfl, rfl, rfl⟩ := h62
                rw [b3]
                refine G_is4 hC dX5_reachedAs_65 rfl ?_
                refine G_al0 hC dX5_reachedAs_67 ?_
                refine G_al0 hC dX5_reachedAs_68 ?_
                refine G_getI hC fl_X5_32 (by first | assumption | rfl) (by omega) dX5_reachedAs_69 ?_
                rw [a2]
                refine G_callVI hC (c_X5_stepsAs hGr hse (by omega) b3 (by omega)) mv_X5_59 (by first | assumption | rfl) (by omega) (by decide) rfl (by decide) dX5_reachedAs_72 rfl (Nat.le_of_ble_eq_true rfl) rfl (fun z72 M72 P72 h72 => ?_)
                obtain ⟨rfl, rfl, rfl⟩ := h72
                rw [b4]
                refine G_iconst hC dX5_reachedAs_75 ?_
                refine G_iadd hC dX5_reachedAs_76 ?_
                refine G_is5 hC dX5_reachedAs_77 rfl ?_
                refine G_iconst hC dX5_reachedAs_79 ?_
                refine G_is6 hC dX5_reachedAs_80 rfl ?_
                exact hlI o l1 bl1[o] bl1 _ b1 b2 (by omega) (by omega) (fun M2 bl2 iv x7 x8 x9 x10 g1 g2 g3 g4 g5 g6 => by
                  have ho2 : o < bl2.length := (List.getElem?_eq_some_iff.mp g3).1
                  have hg := ih (o + 1) bl2 (upM M2 se 6 ((o : Int) + 1)) (vI l1) (vI ((bl1[o].2.1 : Int) + 1)) (vI iv) x7 x8 x9 x10 (by omega) (SI_seS hse g1 (eqx_up (Or.inl rfl))) (SeB_up6 sn1 g2 ho2) (g4.trans (eqx_up (Or.inl rfl))) (by rw [upM_nej (by decide)]; exact g5) (by
                    obtain ⟨m, hm⟩ := hm
                    refine ⟨m + 1, ?_⟩
                    rw [bXn_s, hm]
                    unfold bX
                    dsimp only
                    rw [List.getElem?_eq_getElem ho, g6])
                  exact h155 M2 bl2 _ _ _ _ _ _ _ g2 hg) (tn T) 0 M1 bl1 _ _ _ _ _ (by omega) hS1 hB1 (List.getElem?_eq_getElem ho) hx1 h11 rfl rfl
      · 
        refine G_al0 hC dX5_reachedAs_11 ?_
        refine G_getI hC fl_X5_32 (by first | assumption | rfl) (by omega) dX5_reachedAs_12 ?_
        refine G_sipush hC dX5_reachedAs_15 (by decide) ?_
        refine G_icmp_ge (tgt := 178) hC dX5_reachedAs_18 (by decide) (by omega) (by omega) (fun c18 => ?_) (fun c18 => ?_)
        · exact fin (fun q => ho q.1) _ _ _ _ _ _ _
        · refine G_al0 hC dX5_reachedAs_21 ?_
          refine G_getI hC fl_X5_32 (by first | assumption | rfl) (by omega) dX5_reachedAs_22 ?_
          refine G_al0 hC dX5_reachedAs_25 ?_
          refine G_getI hC fl_X5_29 (by first | assumption | rfl) (by omega) dX5_reachedAs_26 ?_
          refine G_icmp_ge (tgt := 178) hC dX5_reachedAs_29 (by decide) (by omega) (by omega) (fun c29 => ?_) (fun c29 => ?_)
          · exact fin (fun q => ho q.1) _ _ _ _ _ _ _
          · exact absurd c29 (by omega)
  refine G_al0 hC dX5_reachedAs_0 ?_
  refine G_getR hC fl_X5_25 (by first | assumption | rfl) (by omega) (by first | assumption | exact hGr _ _ _ rfl) dX5_reachedAs_1 ?_
  refine G_getR hC fl_X5_48 (by first | assumption | rfl) (by omega) (by first | assumption | exact hGr _ _ _ rfl) dX5_reachedAs_4 ?_
  refine G_getI hC fl_X5_54 (by first | assumption | rfl) (by omega) dX5_reachedAs_7 ?_
  rw [hR0]
  refine G_is3 hC dX5_reachedAs_10 rfl ?_
  exact hlO 721 o0 bl M _ _ _ _ _ _ _ (by omega) hS hB eqx.refl rfl ⟨0, rfl⟩
