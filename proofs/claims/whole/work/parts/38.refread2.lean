/-! the reference reads worths, items, texts -/
def wsN (M : Mem) (n p : Nat) (tx : Nat → Nat) (d : Nat) : Mem := fun a b => if a = 45 ∧ b = 22 then ((p + d : Nat) : Int) else if a = 61 ∧ 6 * (n - 1) ≤ b ∧ b < 6 * (n - 1) + d then ((tx (p + (b - 6 * (n - 1))) - 48 : Nat) : Int) else M a b
theorem wsN_0 {M : Mem} {n p : Nat} {tx : Nat → Nat} (h : M 45 22 = (p : Int)) : wsN M n p tx 0 = M := by
  funext a b
  unfold wsN
  by_cases h1 : a = 45 ∧ b = 22
  · rw [if_pos h1, h1.1, h1.2, h]; rfl
  · rw [if_neg h1, if_neg (by omega)]
theorem wsN_s {M : Mem} {n p d : Nat} {tx : Nat → Nat} {v : Int} (hv : v = ((tx (p + d) - 48 : Nat) : Int)) : upM (upM (wsN M n p tx d) 61 (6 * (n - 1) + d) v) 45 22 ((p : Int) + d + 1) = wsN M n p tx (d + 1) := by
  funext a b
  unfold wsN upM
  dsimp only
  by_cases h1 : a = 45 ∧ b = 22
  · rw [if_pos h1, if_pos h1]; omega
  · simp only [if_neg h1]
    by_cases h2 : a = 61 ∧ b = 6 * (n - 1) + d
    · rw [if_pos h2, if_pos ⟨h2.1, by omega, by omega⟩, hv, show p + (b - 6 * (n - 1)) = p + d by omega]
    · rw [if_neg h2]
      by_cases h3 : a = 61 ∧ 6 * (n - 1) ≤ b ∧ b < 6 * (n - 1) + d
      · rw [if_pos h3, if_pos ⟨h3.1, h3.2.1, by omega⟩]
      · rw [if_neg h3, if_neg (fun q => by have := q.2; have := q.1; omega)]
theorem wsN_e {M : Mem} {n p d : Nat} {tx : Nat → Nat} {a : Nat} (h6 : a ≠ 45) (h5 : a ≠ 61) (b : Nat) : wsN M n p tx d a b = M a b := by
  unfold wsN; rw [if_neg (fun q => h6 q.1), if_neg (fun q => h5 q.1)]
theorem wsN_45 {M : Mem} {n p d b : Nat} {tx : Nat → Nat} (h : b ≠ 22) : wsN M n p tx d 45 b = M 45 b := by
  unfold wsN; rw [if_neg (fun q => h q.2), if_neg (fun q => by have := q.1; omega)]
theorem wsN_p {M : Mem} {n p d : Nat} {tx : Nat → Nat} : wsN M n p tx d 45 22 = ((p + d : Nat) : Int) := by
  unfold wsN; rw [if_pos ⟨rfl, rfl⟩]
theorem wsN_61 {M : Mem} {n p d b : Nat} {tx : Nat → Nat} : wsN M n p tx d 61 b = if 6 * (n - 1) ≤ b ∧ b < 6 * (n - 1) + d then ((tx (p + (b - 6 * (n - 1))) - 48 : Nat) : Int) else M 61 b := by
  unfold wsN; rw [if_neg (by omega)]
  by_cases h : 6 * (n - 1) ≤ b ∧ b < 6 * (n - 1) + d
  · rw [if_pos ⟨rfl, h⟩, if_pos h]
  · rw [if_neg (fun q => h q.2), if_neg h]
theorem mK_ws {M : Mem} {n p d : Nat} {tx : Nat → Nat} : mK M (wsN M n p tx d) := ⟨fun a ha b => wsN_e (fun e => ha (by unfold sMs; omega)) (fun e => ha (by unfold sMs; omega)) b, fun b hb => wsN_45 (by omega)⟩
theorem MsR_ws {M : Mem} {Q : TS} {p : Nat} {tx : Nat → Nat} (h : MsR M Q) (hn : qn Q ≠ 0) (hf : ∀ i, i < qd Q → 48 ≤ tx (p + i) ∧ tx (p + i) ≤ 57) : MsR (wsN M (qn Q) p tx (qd Q)) (setW Q (fun d => tx (p + d) - 48)) := by
  obtain ⟨⟨h1, h2, h3, h4, h5⟩, ⟨M0, h6⟩, h7⟩ := h
  have hd6 : qd Q ≤ 6 := h6.2.2.2.2.2.2.2.2.1
  refine ⟨⟨by rw [wsN_45 (by omega)]; exact h1, by rw [wsN_45 (by omega)]; exact h2, by rw [wsN_45 (by omega)]; exact h3, by rw [wsN_45 (by omega)]; exact h4, by rw [wsN_45 (by omega)]; exact h5⟩, ⟨_, ToR_ws h6 hn hf⟩, fun g hg => ?_⟩
  have hg' : g < qn Q := hg
  obtain ⟨c1, c2, c3, c4⟩ := h7 g hg'
  refine ⟨by rw [wsN_e (by omega) (by omega)]; exact c1, by rw [wsN_e (by omega) (by omega)]; exact c2, by rw [wsN_e (by omega) (by omega)]; exact c3, fun d hd => ?_⟩
  rw [wsN_61]
  show (if _ then _ else _) = (((if g + 1 = qn Q then fun d => if d < qd Q then tx (p + d) - 48 else qv Q g d else qv Q g) d : Nat) : Int)
  by_cases q1 : g + 1 = qn Q
  · by_cases q2 : d < qd Q
    · rw [if_pos (by omega), if_pos q1]
      simp only [if_pos q2]
      rw [show 6 * g + d - 6 * (qn Q - 1) = d by omega]
    · rw [if_neg (by omega), if_pos q1]
      simp only [if_neg q2]
      exact c4 d hd
  · rw [if_neg (by omega), if_neg q1]
    exact c4 d hd
set_option maxHeartbeats 4000000 in
set_option maxRecDepth 100000 in
theorem c_X10_isWorthItem {l : Launch} {tx : Nat → Nat} {len p : Nat} {Q : TS} {M : Mem} {P : PMem} (hGr : GrM P) (hT : TxM M tx len) (hE : M 45 21 = (len : Int)) (hlen : len ≤ 300) (hp : M 45 22 = (p : Int)) (hp9 : p ≤ 500) (hQ0 : MsR M Q) : CtI l yX10_isWorthItem cX10_isWorthItem 2 (some .boolean) 2 42 77 [vR 45] M P (itQ M P (itmW tx len p Q) p) := by
  refine Ct_of (own := RX10) (L := [vR 45, vX 1]) (by decide) rfl rfl (Nat.le_of_ble_eq_true rfl) (fun X Y hl hC hQ => ?_)
  obtain ⟨⟨u1, u2, u3, u4, u5⟩, ⟨M0, u6⟩, u7⟩ := id hQ0
  have hq6 : qn Q ≤ 6 := u6.2.2.2.2.2.2.1
  have hd6 : qd Q ≤ 6 := u6.2.2.2.2.2.2.2.2.1
  have hd1 : 1 ≤ qd Q := u6.2.2.2.2.2.2.2.1
  have hlp : ∀ (c d : Nat) (dv : Int), d + c = qd Q → dv = (d : Int) → (0 < d → qn Q ≠ 0) → (∀ i, i < d → p + i < len ∧ 48 ≤ tx (p + i) ∧ tx (p + i) ≤ 57) → G X Y 2 [vR 45, vI dv] [] (wsN M (qn Q) p tx d) P := by
    intro c
    induction c with
    | zero =>
      intro d dv hk e1 hq hf
      subst e1
      have hd : d = qd Q := by omega
      have hTw : TxM (wsN M (qn Q) p tx d) tx len := fun k hk => by rw [wsN_e (by omega) (by omega)]; exact hT k hk
      have hEw : wsN M (qn Q) p tx d 45 21 = (len : Int) := by rw [wsN_45 (by omega)]; exact hE
      have hsr := sgM_r (p := p + d) hTw
      have w1 : wsN M (qn Q) p tx d 45 24 = (qd Q : Int) := by rw [wsN_45 (by omega)]; exact u2
      by_cases hsg : p + d < len ∧ tx (p + d) = 59
      · refine G_il1 hC dX10_isWorthItem_2 ?_
        refine G_al0 hC dX10_isWorthItem_3 ?_
        refine G_getI hC fl_X10_134 (by first | assumption | rfl) (by omega) dX10_isWorthItem_4 ?_
        rw [w1]
        refine G_icmp_ge (tgt := 72) hC dX10_isWorthItem_7 (by decide) (by omega) (by omega) (fun c7 => ?_) (fun c7 => ?_)
        · refine G_al0 hC dX10_isWorthItem_72 ?_
          refine G_bipush hC dX10_isWorthItem_73 (by decide) ?_
          refine G_callVI hC (c_X10_isSign1 (q := 59) hGr hTw hEw hlen wsN_p (by omega) hsg) mv_X10_153 (by first | assumption | rfl) (by omega) (by decide) rfl (by decide) dX10_isWorthItem_75 rfl (Nat.le_of_ble_eq_true rfl) rfl (fun z75 M75 P75 h75 => ?_)
          obtain ⟨rfl, rfl, rfl⟩ := h75
          exact G_zret hC hQ dX10_isWorthItem_78 (by omega) ⟨_, rfl, rfl, mK_22 mK_ws, Or.inr ⟨rfl, p + qd Q + 1, _, itmW_1 ⟨hq (by omega), by rw [← hd]; exact hf, by rw [← hd]; exact hsg⟩, MsR_22 (by rw [hd]; exact MsR_ws hQ0 (hq (by omega)) (fun i hi => (hf i (by omega)).2)), by rw [upM_self, hd]; omega, by omega, by omega⟩⟩
        · exact absurd c7 (by omega)
      · refine G_il1 hC dX10_isWorthItem_2 ?_
        refine G_al0 hC dX10_isWorthItem_3 ?_
        refine G_getI hC fl_X10_134 (by first | assumption | rfl) (by omega) dX10_isWorthItem_4 ?_
        rw [w1]
        refine G_icmp_ge (tgt := 72) hC dX10_isWorthItem_7 (by decide) (by omega) (by omega) (fun c7 => ?_) (fun c7 => ?_)
        · refine G_al0 hC dX10_isWorthItem_72 ?_
          refine G_bipush hC dX10_isWorthItem_73 (by decide) ?_
          refine G_callVI hC (c_X10_isSign0 (q := 59) hGr hTw hEw hlen wsN_p (by omega) (by omega) hsg) mv_X10_153 (by first | assumption | rfl) (by omega) (by decide) rfl (by decide) dX10_isWorthItem_75 rfl (Nat.le_of_ble_eq_true rfl) rfl (fun z75 M75 P75 h75 => ?_)
          obtain ⟨rfl, rfl, rfl⟩ := h75
          exact G_zret hC hQ dX10_isWorthItem_78 (by omega) ⟨_, rfl, rfl, mK_ws, Or.inl ⟨rfl, itmW_0 (fun q => hsg (by rw [hd]; exact q.2.2))⟩⟩
        · exact absurd c7 (by omega)
    | succ c ih =>
      intro d dv hk e1 hq hf
      subst e1
      have hTw : TxM (wsN M (qn Q) p tx d) tx len := fun k hk => by rw [wsN_e (by omega) (by omega)]; exact hT k hk
      have hEw : wsN M (qn Q) p tx d 45 21 = (len : Int) := by rw [wsN_45 (by omega)]; exact hE
      have hsr := sgM_r (p := p + d) hTw
      have w0 : wsN M (qn Q) p tx d 45 23 = (qn Q : Int) := by rw [wsN_45 (by omega)]; exact u1
      have w1 : wsN M (qn Q) p tx d 45 24 = (qd Q : Int) := by rw [wsN_45 (by omega)]; exact u2
      by_cases hn0 : qn Q = 0
      · refine G_il1 hC dX10_isWorthItem_2 ?_
        refine G_al0 hC dX10_isWorthItem_3 ?_
        refine G_getI hC fl_X10_134 (by first | assumption | rfl) (by omega) dX10_isWorthItem_4 ?_
        rw [w1]
        refine G_icmp_ge (tgt := 72) hC dX10_isWorthItem_7 (by decide) (by omega) (by omega) (fun c7 => ?_) (fun c7 => ?_)
        · exact absurd c7 (by omega)
        · refine G_al0 hC dX10_isWorthItem_10 ?_
          refine G_getI hC fl_X10_109 (by first | assumption | rfl) (by omega) dX10_isWorthItem_11 ?_
          rw [w0]
          refine G_if_eq (tgt := 31) hC dX10_isWorthItem_14 (by decide) (by omega) (fun c14 => ?_) (fun c14 => ?_)
          · refine G_iconst hC dX10_isWorthItem_31 ?_
            exact G_zret hC hQ dX10_isWorthItem_32 (by omega) ⟨_, rfl, rfl, mK_ws, Or.inl ⟨rfl, itmW_0 (fun q => q.1 hn0)⟩⟩
          · exact absurd (by omega) c14
      · cases hfi : figN tx len (p + d) with
        | none =>
          have hf0 := figN_0 hfi
          refine G_il1 hC dX10_isWorthItem_2 ?_
          refine G_al0 hC dX10_isWorthItem_3 ?_
          refine G_getI hC fl_X10_134 (by first | assumption | rfl) (by omega) dX10_isWorthItem_4 ?_
          rw [w1]
          refine G_icmp_ge (tgt := 72) hC dX10_isWorthItem_7 (by decide) (by omega) (by omega) (fun c7 => ?_) (fun c7 => ?_)
          · exact absurd c7 (by omega)
          · refine G_al0 hC dX10_isWorthItem_10 ?_
            refine G_getI hC fl_X10_109 (by first | assumption | rfl) (by omega) dX10_isWorthItem_11 ?_
            rw [w0]
            refine G_if_eq (tgt := 31) hC dX10_isWorthItem_14 (by decide) (by omega) (fun c14 => ?_) (fun c14 => ?_)
            · exact absurd c14 (by omega)
            · refine G_al0 hC dX10_isWorthItem_17 ?_
              refine G_callVI hC (c_X10_here hGr hTw hEw hlen wsN_p (by omega)) mv_X10_146 (by first | assumption | rfl) (by omega) (by decide) rfl (by decide) dX10_isWorthItem_18 rfl (Nat.le_of_ble_eq_true rfl) rfl (fun z18 M18 P18 h18 => ?_)
              obtain ⟨rfl, rfl, rfl⟩ := h18
              refine G_bipush hC dX10_isWorthItem_21 (by decide) ?_
              refine G_bipush hC dX10_isWorthItem_23 (by decide) ?_
              refine G_callSI hC (c_in0 (by unfold i32r; omega) (by unfold i32r; omega) (by unfold i32r; omega) (sg_nofig hfi)) ms_X10_119 (by decide) rfl (by decide) dX10_isWorthItem_25 rfl (Nat.le_of_ble_eq_true rfl) rfl (fun z25 M25 P25 h25 => ?_)
              obtain ⟨rfl, rfl, rfl⟩ := h25
              refine G_if_ne (tgt := 33) hC dX10_isWorthItem_28 (by decide) (by omega) (fun c28 => ?_) (fun c28 => ?_)
              · exact absurd rfl c28
              · refine G_iconst hC dX10_isWorthItem_31 ?_
                exact G_zret hC hQ dX10_isWorthItem_32 (by omega) ⟨_, rfl, rfl, mK_ws, Or.inl ⟨rfl, itmW_0 (fun q => hf0 (q.2.1 d (by omega)))⟩⟩
        | some a =>
          obtain ⟨hf1, hf2⟩ := figN_1 hfi
          obtain ⟨hs1, hs2⟩ := sg_fig hfi
          refine G_il1 hC dX10_isWorthItem_2 ?_
          refine G_al0 hC dX10_isWorthItem_3 ?_
          refine G_getI hC fl_X10_134 (by first | assumption | rfl) (by omega) dX10_isWorthItem_4 ?_
          rw [w1]
          refine G_icmp_ge (tgt := 72) hC dX10_isWorthItem_7 (by decide) (by omega) (by omega) (fun c7 => ?_) (fun c7 => ?_)
          · exact absurd c7 (by omega)
          · refine G_al0 hC dX10_isWorthItem_10 ?_
            refine G_getI hC fl_X10_109 (by first | assumption | rfl) (by omega) dX10_isWorthItem_11 ?_
            rw [w0]
            refine G_if_eq (tgt := 31) hC dX10_isWorthItem_14 (by decide) (by omega) (fun c14 => ?_) (fun c14 => ?_)
            · exact absurd c14 (by omega)
            · refine G_al0 hC dX10_isWorthItem_17 ?_
              refine G_callVI hC (c_X10_here hGr hTw hEw hlen wsN_p (by omega)) mv_X10_146 (by first | assumption | rfl) (by omega) (by decide) rfl (by decide) dX10_isWorthItem_18 rfl (Nat.le_of_ble_eq_true rfl) rfl (fun z18 M18 P18 h18 => ?_)
              obtain ⟨rfl, rfl, rfl⟩ := h18
              refine G_bipush hC dX10_isWorthItem_21 (by decide) ?_
              refine G_bipush hC dX10_isWorthItem_23 (by decide) ?_
              refine G_callSI hC (c_in1 (by unfold i32r; omega) (by unfold i32r; omega) (by unfold i32r; omega) hs1) ms_X10_119 (by decide) rfl (by decide) dX10_isWorthItem_25 rfl (Nat.le_of_ble_eq_true rfl) rfl (fun z25 M25 P25 h25 => ?_)
              obtain ⟨rfl, rfl, rfl⟩ := h25
              refine G_if_ne (tgt := 33) hC dX10_isWorthItem_28 (by decide) (by omega) (fun c28 => ?_) (fun c28 => ?_)
              · refine G_al0 hC dX10_isWorthItem_33 ?_
                refine G_getR hC fl_X10_55 (by first | assumption | rfl) (by omega) (by first | assumption | exact hGr _ _ rfl) dX10_isWorthItem_34 ?_
                refine G_bipush hC dX10_isWorthItem_37 (by decide) ?_
                refine G_al0 hC dX10_isWorthItem_39 ?_
                refine G_getI hC fl_X10_109 (by first | assumption | rfl) (by omega) dX10_isWorthItem_40 ?_
                rw [w0]
                refine G_iconst hC dX10_isWorthItem_43 ?_
                refine G_isub hC dX10_isWorthItem_44 ?_
                refine G_imul hC dX10_isWorthItem_45 ?_
                refine G_il1 hC dX10_isWorthItem_46 ?_
                refine G_iadd hC dX10_isWorthItem_47 ?_
                refine G_al0 hC dX10_isWorthItem_48 ?_
                refine G_callVI hC (c_X10_here hGr hTw hEw hlen wsN_p (by omega)) mv_X10_146 (by first | assumption | rfl) (by omega) (by decide) rfl (by decide) dX10_isWorthItem_49 rfl (Nat.le_of_ble_eq_true rfl) rfl (fun z49 M49 P49 h49 => ?_)
                obtain ⟨rfl, rfl, rfl⟩ := h49
                refine G_bipush hC dX10_isWorthItem_52 (by decide) ?_
                refine G_isub hC dX10_isWorthItem_54 ?_
                refine G_iastoreN (n := 6 * (qn Q - 1) + d) hC (by first | assumption | rfl) (by omega) (by omega) (by omega) dX10_isWorthItem_55 ?_
                refine G_al0 hC dX10_isWorthItem_56 ?_
                refine G_dup hC dX10_isWorthItem_57 rfl ?_
                refine G_getI hC fl_X10_131 (by first | assumption | rfl) (by omega) dX10_isWorthItem_58 ?_
                rw [upM_ne (by omega), wsN_p]
                refine G_iconst hC dX10_isWorthItem_61 ?_
                refine G_iadd hC dX10_isWorthItem_62 ?_
                refine G_putI hC fl_X10_131 (by first | assumption | rfl) (by omega) dX10_isWorthItem_63 ?_
                refine G_inc1 hC dX10_isWorthItem_66 rfl ?_
                refine G_goto (tgt := 2) hC dX10_isWorthItem_69 (by decide) ?_
                rw [show ((p + d : Nat) : Int) + 1 = (p : Int) + d + 1 by omega, wsN_s (by omega)]
                exact ih (d + 1) _ (by omega) (by omega) (fun _ => hn0) (fun i hi => by
                  rcases Nat.lt_or_ge i d with z | z
                  · exact hf i z
                  · rw [show i = d by omega]; exact hf1)
              · exact absurd c28 (by omega)
  refine G_iconst hC dX10_isWorthItem_0 ?_
  refine G_is1 hC dX10_isWorthItem_1 rfl ?_
  have h0 := hlp (qd Q) 0 0 (by omega) rfl (fun z => by omega) (fun i hi => by omega)
  rw [wsN_0 hp] at h0
  exact h0
theorem MsR_4 {M : Mem} {Q Q' : TS} {a b c d : Int} (h : MsR M Q) (hw : qWF Q') (e0 : qn Q' = qn Q) (e2 : Q'.2 = Q.2) (ha : a = (qd Q' : Int)) (hb : b = (qr Q' : Int)) (hc : c = (qs Q' : Int)) (hd : d = (qc Q' : Int)) : MsR (upM (upM (upM (upM M 45 24 a) 45 25 b) 45 26 c) 45 27 d) Q' := by
  obtain ⟨⟨h1, h2, h3, h4, h5⟩, -, h7⟩ := h
  refine ⟨⟨by rw [upM_nej (by omega), upM_nej (by omega), upM_nej (by omega), upM_nej (by omega), e0]; exact h1, by rw [upM_nej (by omega), upM_nej (by omega), upM_nej (by omega), upM_self]; exact ha, by rw [upM_nej (by omega), upM_nej (by omega), upM_self]; exact hb, by rw [upM_nej (by omega), upM_self]; exact hc, by rw [upM_self]; exact hd⟩, hw, fun g hg => ?_⟩
  rw [e0] at hg
  obtain ⟨c1, c2, c3, c4⟩ := h7 g hg
  unfold qk qw qf qv
  rw [e2]
  have eo : ∀ x, x ≠ 45 → ∀ y, upM (upM (upM (upM M 45 24 a) 45 25 b) 45 26 c) 45 27 d x y = M x y := fun x hx y => by rw [upM_ne hx, upM_ne hx, upM_ne hx, upM_ne hx]
  rw [eo 59 (by omega), eo 60 (by omega), eo 62 (by omega)]
  exact ⟨c1, c2, c3, fun d hd => by rw [eo 61 (by omega)]; exact c4 d hd⟩
def itQ2 (M : Mem) (P : PMem) (o : Option (Nat × TS)) (p : Nat) : Int → Mem → PMem → Prop := fun r M' P' => P = P' ∧ mK M M' ∧ ((r = 0 ∧ o = none) ∨ (r = 1 ∧ ∃ p' Q', o = some (p', Q') ∧ MsR M' Q' ∧ M' 45 22 = (p' : Int) ∧ p < p' ∧ p' ≤ p + 30))
def lstI (c : Nat) : Int := if c = 100 then 1 else 0
def mstI (c n : Nat) : Int := if c = 100 then (if 0 < n then -1 else 6) else if c = 114 then 1 else if c = 115 then 99 else if c = 99 then 9 else -1
theorem nEnd_0 {Q : TS} {c v q : Nat} (hv : v ≤ 99) (h : ¬ (lstI c ≤ (v : Int) ∧ (v : Int) ≤ mstI c (qn Q))) : nEnd Q c v q = none := by
  unfold lstI mstI at h
  unfold nEnd
  by_cases h1 : c = 100
  · rw [if_pos h1, if_pos h1] at h
    rw [if_pos h1, if_neg (fun z => h (by rw [if_neg (by omega)]; omega))]
  · rw [if_neg h1] at h ⊢
    rw [if_neg h1] at h
    by_cases h2 : c = 114
    · rw [if_pos h2] at h ⊢; rw [if_neg (by omega)]
    · rw [if_neg h2] at h ⊢
      by_cases h3 : c = 115
      · rw [if_pos h3] at h ⊢
        exact absurd ⟨by omega, by omega⟩ h
      · rw [if_neg h3] at h ⊢
        by_cases h4 : c = 99
        · rw [if_pos h4] at h ⊢; rw [if_neg (by omega)]
        · rw [if_neg h4]
set_option maxHeartbeats 4000000 in
set_option maxRecDepth 100000 in
theorem c_X10_isItem {l : Launch} {tx : Nat → Nat} {len p : Nat} {Q : TS} {M : Mem} {P : PMem} (hGr : GrM P) (hT : TxM M tx len) (hE : M 45 21 = (len : Int)) (hlen : len ≤ 300) (hp : M 45 22 = (p : Int)) (hp9 : p ≤ 480) (hQ0 : MsR M Q) (hpl : p < len) : CtI l yX10_isItem cX10_isItem 5 (some .boolean) 3 68 77 [vR 45] M P (itQ2 M P (itm tx len p Q) p) := by
  refine Ct_of (own := RX10) (L := [vR 45, vX 1, vX 1, vX 1, vX 1]) (by decide) rfl rfl (Nat.le_of_ble_eq_true rfl) (fun X Y hl hC hQ => ?_)
  have htp : tx p < 256 := (hT p hpl).2
  have hcp : sgZ tx len p = (tx p : Int) := by unfold sgZ; rw [if_pos hpl]
  have hT1 : TxM (upM M 45 22 (p + 1)) tx len := TxM_6 hT (by omega)
  have hE1 : upM M 45 22 (p + 1) 45 21 = (len : Int) := by rw [upM_nej (by omega)]; exact hE
  have hq1 : upM M 45 22 (p + 1) 45 22 = ((p + 1 : Nat) : Int) := by rw [upM_self]; omega
  have hQ1 : MsR (upM M 45 22 (p + 1)) Q := MsR_22 hQ0
  have hK1 : mK M (upM M 45 22 (p + 1)) := mK_22 mK.refl
  have ecoll : ∀ v : Int, upM (upM M 45 22 (p + 1)) 45 22 v = upM M 45 22 v := fun v => by
    funext x y; unfold upM
    by_cases z : x = 45 ∧ y = 22
    · rw [if_pos z, if_pos z]
    · rw [if_neg z, if_neg z, if_neg z]
  obtain ⟨⟨u1, u2, u3, u4, u5⟩, ⟨M0, u6⟩, u7⟩ := id hQ0
  have hq6 : qn Q ≤ 6 := u6.2.2.2.2.2.2.1
  have fin : ∀ (least most : Int) (x4 : AV), least = lstI (tx p) → most = mstI (tx p) (qn Q) → tx p ≠ 119 → tx p ≠ 103 → G X Y 105 [vR 45, vI (tx p), vI least, vI most, x4] [] (upM M 45 22 (p + 1)) P := by
    intro least most x4 hlea hmo h119 h103
    have hlr : 0 ≤ least ∧ least ≤ 1 := by rw [hlea]; unfold lstI; split <;> omega
    have hmr : -1 ≤ most ∧ most ≤ 99 := by
      rw [hmo]; unfold mstI
      split
      · split <;> omega
      · split
        · omega
        · split
          · omega
          · split <;> omega
    have hi := itm_N (len := len) (S := Q) h119 h103
    unfold itmN at hi
    cases hn : numN tx len (p + 1) with
    | none =>
      rw [nsp_0 hn] at hi
      refine G_al0 hC dX10_isItem_105 ?_
      refine G_callVI hC (c_X10_number0 hGr hT1 hE1 hlen hq1 (by omega) hn) mv_X10_150 (by first | assumption | rfl) (by omega) (by decide) rfl (by decide) dX10_isItem_106 rfl (Nat.le_of_ble_eq_true rfl) rfl (fun z106 M106 P106 h106 => ?_)
      obtain ⟨rfl, rfl, rfl⟩ := h106
      refine G_is4 hC dX10_isItem_109 rfl ?_
      refine G_il4 hC dX10_isItem_111 ?_
      refine G_il2 hC dX10_isItem_113 ?_
      refine G_il3 hC dX10_isItem_114 ?_
      refine G_callSI hC (c_in0 (by unfold i32r; omega) (by unfold i32r; omega) (by unfold i32r; omega) (by omega)) ms_X10_119 (by decide) rfl (by decide) dX10_isItem_115 rfl (Nat.le_of_ble_eq_true rfl) rfl (fun z115 M115 P115 h115 => ?_)
      obtain ⟨rfl, rfl, rfl⟩ := h115
      refine G_if_eq (tgt := 130) hC dX10_isItem_118 (by decide) (by omega) (fun c118 => ?_) (fun c118 => ?_)
      · refine G_iconst hC dX10_isItem_130 ?_
        exact G_zret hC hQ dX10_isItem_131 (by omega) ⟨_, rfl, rfl, hK1, Or.inl ⟨rfl, hi⟩⟩
      · exact absurd rfl c118
    | some x =>
      obtain ⟨v, q1⟩ := x
      have hTa : TxM (upM M 45 22 q1) tx len := TxM_6 hT (by omega)
      have hEa : upM M 45 22 q1 45 21 = (len : Int) := by rw [upM_nej (by omega)]; exact hE
      have hqa : upM M 45 22 q1 45 22 = (q1 : Int) := upM_self _ _ _ _
      have hQa : MsR (upM M 45 22 q1) Q := MsR_22 hQ0
      have hKa : mK M (upM M 45 22 q1) := mK_22 mK.refl
      have hle := numN_le hn
      have ha0 := hQa.1.1
      have ha1 := hQa.1.2.1
      have hnv := numN_le hn
      by_cases hin : least ≤ (v : Int) ∧ (v : Int) ≤ most
      · by_cases hsg : q1 < len ∧ tx q1 = 59
        · rw [nsp_1 hn hsg] at hi
          have eM : upM (upM M 45 22 q1) 45 22 (q1 + 1) = upM M 45 22 ((q1 + 1 : Nat) : Int) := by
            funext x y; unfold upM
            by_cases z : x = 45 ∧ y = 22
            · rw [if_pos z, if_pos z]; omega
            · rw [if_neg z, if_neg z, if_neg z]
          have hTb : TxM (upM M 45 22 ((q1 + 1 : Nat) : Int)) tx len := TxM_6 hT (by omega)
          have hEb : upM M 45 22 ((q1 + 1 : Nat) : Int) 45 21 = (len : Int) := by rw [upM_nej (by omega)]; exact hE
          have hqb : upM M 45 22 ((q1 + 1 : Nat) : Int) 45 22 = ((q1 + 1 : Nat) : Int) := upM_self _ _ _ _
          have hQb : MsR (upM M 45 22 ((q1 + 1 : Nat) : Int)) Q := MsR_22 hQ0
          have hKb : mK M (upM M 45 22 ((q1 + 1 : Nat) : Int)) := mK_22 mK.refl
          have hb24 := hQb.1.2.1
          have hb25 := hQb.1.2.2.1
          have hb26 := hQb.1.2.2.2.1
          have hb27 := hQb.1.2.2.2.2
          replace hi : itm tx len p Q = nEnd Q (tx p) v (q1 + 1) := hi
          unfold nEnd at hi
          have hin2 := hin
          rw [hlea, hmo] at hin2
          unfold lstI mstI at hin2
          have hKf : ∀ a b c d : Int, mK M (upM (upM (upM (upM (upM M 45 22 ((q1 + 1 : Nat) : Int)) 45 24 a) 45 25 b) 45 26 c) 45 27 d) := fun a b c d => hKb.trans ⟨fun x hx y => by
            unfold sMs at hx
            rw [upM_ne (by omega), upM_ne (by omega), upM_ne (by omega), upM_ne (by omega)], fun y hy => by
            rw [upM_nej (by omega), upM_nej (by omega), upM_nej (by omega), upM_nej (by omega)]⟩
          have hqf : ∀ a b c d : Int, upM (upM (upM (upM (upM M 45 22 ((q1 + 1 : Nat) : Int)) 45 24 a) 45 25 b) 45 26 c) 45 27 d 45 22 = ((q1 + 1 : Nat) : Int) := fun a b c d => by
            rw [upM_nej (by omega), upM_nej (by omega), upM_nej (by omega), upM_nej (by omega)]; exact hqb
          by_cases k1 : tx p = 100
          · rw [if_pos k1, if_pos k1] at hin2
            have hn0 : qn Q = 0 := by
              refine Classical.byContradiction fun z => ?_
              rw [if_pos (by omega)] at hin2; omega
            rw [if_neg (by omega)] at hin2
            rw [if_pos k1, if_pos ⟨by omega, by omega, hn0⟩] at hi
            refine G_al0 hC dX10_isItem_105 ?_
            refine G_callVI hC (c_X10_number1 hGr hT1 hE1 hlen hq1 (by omega) hn) mv_X10_150 (by first | assumption | rfl) (by omega) (by decide) rfl (by decide) dX10_isItem_106 rfl (Nat.le_of_ble_eq_true rfl) rfl (fun z106 M106 P106 h106 => ?_)
            obtain ⟨rfl, rfl, rfl⟩ := h106
            rw [ecoll]
            refine G_is4 hC dX10_isItem_109 rfl ?_
            refine G_il4 hC dX10_isItem_111 ?_
            refine G_il2 hC dX10_isItem_113 ?_
            refine G_il3 hC dX10_isItem_114 ?_
            refine G_callSI hC (c_in1 (by unfold i32r; omega) (by unfold i32r; omega) (by unfold i32r; omega) (by omega)) ms_X10_119 (by decide) rfl (by decide) dX10_isItem_115 rfl (Nat.le_of_ble_eq_true rfl) rfl (fun z115 M115 P115 h115 => ?_)
            obtain ⟨rfl, rfl, rfl⟩ := h115
            refine G_if_eq (tgt := 130) hC dX10_isItem_118 (by decide) (by omega) (fun c118 => ?_) (fun c118 => ?_)
            · exact absurd c118 (by omega)
            · refine G_al0 hC dX10_isItem_121 ?_
              refine G_bipush hC dX10_isItem_122 (by decide) ?_
              refine G_callVI hC (c_X10_isSign1 (q := 59) hGr hTa hEa hlen hqa (by omega) hsg) mv_X10_153 (by first | assumption | rfl) (by omega) (by decide) rfl (by decide) dX10_isItem_124 rfl (Nat.le_of_ble_eq_true rfl) rfl (fun z124 M124 P124 h124 => ?_)
              obtain ⟨rfl, rfl, rfl⟩ := h124
              refine G_if_ne (tgt := 132) hC dX10_isItem_127 (by decide) (by omega) (fun c127 => ?_) (fun c127 => ?_)
              · rw [eM]
                refine G_al0 hC dX10_isItem_132 ?_
                refine G_il1 hC dX10_isItem_133 ?_
                refine G_bipush hC dX10_isItem_134 (by decide) ?_
                refine G_icmp_ne (tgt := 144) hC dX10_isItem_136 (by decide) (by omega) (by omega) (fun c136 => ?_) (fun c136 => ?_)
                · exact absurd c136 (by omega)
                · refine G_il4 hC dX10_isItem_139 ?_
                  refine G_goto (tgt := 148) hC dX10_isItem_141 (by decide) ?_
                  refine G_putI hC fl_X10_134 (by first | assumption | rfl) (by omega) dX10_isItem_148 ?_
                  refine G_al0 hC dX10_isItem_151 ?_
                  refine G_il1 hC dX10_isItem_152 ?_
                  refine G_bipush hC dX10_isItem_153 (by decide) ?_
                  refine G_icmp_ne (tgt := 163) hC dX10_isItem_155 (by decide) (by omega) (by omega) (fun c155 => ?_) (fun c155 => ?_)
                  · refine G_al0 hC dX10_isItem_163 ?_
                    refine G_getI hC fl_X10_137 (by first | assumption | rfl) (by omega) dX10_isItem_164 ?_
                    rw [upM_nej (by omega), hb25]
                    refine G_putI hC fl_X10_137 (by first | assumption | rfl) (by omega) dX10_isItem_167 ?_
                    refine G_al0 hC dX10_isItem_170 ?_
                    refine G_il1 hC dX10_isItem_171 ?_
                    refine G_bipush hC dX10_isItem_172 (by decide) ?_
                    refine G_icmp_ne (tgt := 182) hC dX10_isItem_174 (by decide) (by omega) (by omega) (fun c174 => ?_) (fun c174 => ?_)
                    · refine G_al0 hC dX10_isItem_182 ?_
                      refine G_getI hC fl_X10_140 (by first | assumption | rfl) (by omega) dX10_isItem_183 ?_
                      rw [upM_nej (by omega), upM_nej (by omega), hb26]
                      refine G_putI hC fl_X10_140 (by first | assumption | rfl) (by omega) dX10_isItem_186 ?_
                      refine G_al0 hC dX10_isItem_189 ?_
                      refine G_il1 hC dX10_isItem_190 ?_
                      refine G_bipush hC dX10_isItem_191 (by decide) ?_
                      refine G_icmp_ne (tgt := 201) hC dX10_isItem_193 (by decide) (by omega) (by omega) (fun c193 => ?_) (fun c193 => ?_)
                      · refine G_al0 hC dX10_isItem_201 ?_
                        refine G_getI hC fl_X10_143 (by first | assumption | rfl) (by omega) dX10_isItem_202 ?_
                        rw [upM_nej (by omega), upM_nej (by omega), upM_nej (by omega), hb27]
                        refine G_putI hC fl_X10_143 (by first | assumption | rfl) (by omega) dX10_isItem_205 ?_
                        refine G_iconst hC dX10_isItem_208 ?_
                        exact G_zret hC hQ dX10_isItem_209 (by omega) ⟨_, rfl, rfl, hKf _ _ _ _, Or.inr ⟨rfl, q1 + 1, _, hi, MsR_4 hQb ⟨_, ToR_2 u6 (Or.inl ⟨rfl, by omega, by omega, hn0, rfl⟩)⟩ rfl rfl rfl rfl rfl rfl, hqf _ _ _ _, by omega, by omega⟩⟩
                      · exact absurd c193 (by omega)
                    · exact absurd c174 (by omega)
                  · exact absurd c155 (by omega)
              · exact absurd c127 (by omega)
          · rw [if_neg k1] at hi
            rw [if_neg k1, if_neg k1] at hin2
            by_cases k2 : tx p = 114
            · rw [if_pos k2] at hin2
              rw [if_pos k2, if_pos (by omega)] at hi
              refine G_al0 hC dX10_isItem_105 ?_
              refine G_callVI hC (c_X10_number1 hGr hT1 hE1 hlen hq1 (by omega) hn) mv_X10_150 (by first | assumption | rfl) (by omega) (by decide) rfl (by decide) dX10_isItem_106 rfl (Nat.le_of_ble_eq_true rfl) rfl (fun z106 M106 P106 h106 => ?_)
              obtain ⟨rfl, rfl, rfl⟩ := h106
              rw [ecoll]
              refine G_is4 hC dX10_isItem_109 rfl ?_
              refine G_il4 hC dX10_isItem_111 ?_
              refine G_il2 hC dX10_isItem_113 ?_
              refine G_il3 hC dX10_isItem_114 ?_
              refine G_callSI hC (c_in1 (by unfold i32r; omega) (by unfold i32r; omega) (by unfold i32r; omega) (by omega)) ms_X10_119 (by decide) rfl (by decide) dX10_isItem_115 rfl (Nat.le_of_ble_eq_true rfl) rfl (fun z115 M115 P115 h115 => ?_)
              obtain ⟨rfl, rfl, rfl⟩ := h115
              refine G_if_eq (tgt := 130) hC dX10_isItem_118 (by decide) (by omega) (fun c118 => ?_) (fun c118 => ?_)
              · exact absurd c118 (by omega)
              · refine G_al0 hC dX10_isItem_121 ?_
                refine G_bipush hC dX10_isItem_122 (by decide) ?_
                refine G_callVI hC (c_X10_isSign1 (q := 59) hGr hTa hEa hlen hqa (by omega) hsg) mv_X10_153 (by first | assumption | rfl) (by omega) (by decide) rfl (by decide) dX10_isItem_124 rfl (Nat.le_of_ble_eq_true rfl) rfl (fun z124 M124 P124 h124 => ?_)
                obtain ⟨rfl, rfl, rfl⟩ := h124
                refine G_if_ne (tgt := 132) hC dX10_isItem_127 (by decide) (by omega) (fun c127 => ?_) (fun c127 => ?_)
                · rw [eM]
                  refine G_al0 hC dX10_isItem_132 ?_
                  refine G_il1 hC dX10_isItem_133 ?_
                  refine G_bipush hC dX10_isItem_134 (by decide) ?_
                  refine G_icmp_ne (tgt := 144) hC dX10_isItem_136 (by decide) (by omega) (by omega) (fun c136 => ?_) (fun c136 => ?_)
                  · refine G_al0 hC dX10_isItem_144 ?_
                    refine G_getI hC fl_X10_134 (by first | assumption | rfl) (by omega) dX10_isItem_145 ?_
                    rw [hb24]
                    refine G_putI hC fl_X10_134 (by first | assumption | rfl) (by omega) dX10_isItem_148 ?_
                    refine G_al0 hC dX10_isItem_151 ?_
                    refine G_il1 hC dX10_isItem_152 ?_
                    refine G_bipush hC dX10_isItem_153 (by decide) ?_
                    refine G_icmp_ne (tgt := 163) hC dX10_isItem_155 (by decide) (by omega) (by omega) (fun c155 => ?_) (fun c155 => ?_)
                    · exact absurd c155 (by omega)
                    · refine G_il4 hC dX10_isItem_158 ?_
                      refine G_goto (tgt := 167) hC dX10_isItem_160 (by decide) ?_
                      refine G_putI hC fl_X10_137 (by first | assumption | rfl) (by omega) dX10_isItem_167 ?_
                      refine G_al0 hC dX10_isItem_170 ?_
                      refine G_il1 hC dX10_isItem_171 ?_
                      refine G_bipush hC dX10_isItem_172 (by decide) ?_
                      refine G_icmp_ne (tgt := 182) hC dX10_isItem_174 (by decide) (by omega) (by omega) (fun c174 => ?_) (fun c174 => ?_)
                      · refine G_al0 hC dX10_isItem_182 ?_
                        refine G_getI hC fl_X10_140 (by first | assumption | rfl) (by omega) dX10_isItem_183 ?_
                        rw [upM_nej (by omega), upM_nej (by omega), hb26]
                        refine G_putI hC fl_X10_140 (by first | assumption | rfl) (by omega) dX10_isItem_186 ?_
                        refine G_al0 hC dX10_isItem_189 ?_
                        refine G_il1 hC dX10_isItem_190 ?_
                        refine G_bipush hC dX10_isItem_191 (by decide) ?_
                        refine G_icmp_ne (tgt := 201) hC dX10_isItem_193 (by decide) (by omega) (by omega) (fun c193 => ?_) (fun c193 => ?_)
                        · refine G_al0 hC dX10_isItem_201 ?_
                          refine G_getI hC fl_X10_143 (by first | assumption | rfl) (by omega) dX10_isItem_202 ?_
                          rw [upM_nej (by omega), upM_nej (by omega), upM_nej (by omega), hb27]
                          refine G_putI hC fl_X10_143 (by first | assumption | rfl) (by omega) dX10_isItem_205 ?_
                          refine G_iconst hC dX10_isItem_208 ?_
                          exact G_zret hC hQ dX10_isItem_209 (by omega) ⟨_, rfl, rfl, hKf _ _ _ _, Or.inr ⟨rfl, q1 + 1, _, hi, MsR_4 hQb ⟨_, ToR_2 u6 (Or.inr (Or.inl ⟨rfl, by omega, rfl⟩))⟩ rfl rfl rfl rfl rfl rfl, hqf _ _ _ _, by omega, by omega⟩⟩
                        · exact absurd c193 (by omega)
                      · exact absurd c174 (by omega)
                  · exact absurd c136 (by omega)
                · exact absurd c127 (by omega)
            · rw [if_neg k2] at hi hin2
              by_cases k3 : tx p = 115
              · rw [if_pos k3] at hi hin2
                refine G_al0 hC dX10_isItem_105 ?_
                refine G_callVI hC (c_X10_number1 hGr hT1 hE1 hlen hq1 (by omega) hn) mv_X10_150 (by first | assumption | rfl) (by omega) (by decide) rfl (by decide) dX10_isItem_106 rfl (Nat.le_of_ble_eq_true rfl) rfl (fun z106 M106 P106 h106 => ?_)
                obtain ⟨rfl, rfl, rfl⟩ := h106
                rw [ecoll]
                refine G_is4 hC dX10_isItem_109 rfl ?_
                refine G_il4 hC dX10_isItem_111 ?_
                refine G_il2 hC dX10_isItem_113 ?_
                refine G_il3 hC dX10_isItem_114 ?_
                refine G_callSI hC (c_in1 (by unfold i32r; omega) (by unfold i32r; omega) (by unfold i32r; omega) (by omega)) ms_X10_119 (by decide) rfl (by decide) dX10_isItem_115 rfl (Nat.le_of_ble_eq_true rfl) rfl (fun z115 M115 P115 h115 => ?_)
                obtain ⟨rfl, rfl, rfl⟩ := h115
                refine G_if_eq (tgt := 130) hC dX10_isItem_118 (by decide) (by omega) (fun c118 => ?_) (fun c118 => ?_)
                · exact absurd c118 (by omega)
                · refine G_al0 hC dX10_isItem_121 ?_
                  refine G_bipush hC dX10_isItem_122 (by decide) ?_
                  refine G_callVI hC (c_X10_isSign1 (q := 59) hGr hTa hEa hlen hqa (by omega) hsg) mv_X10_153 (by first | assumption | rfl) (by omega) (by decide) rfl (by decide) dX10_isItem_124 rfl (Nat.le_of_ble_eq_true rfl) rfl (fun z124 M124 P124 h124 => ?_)
                  obtain ⟨rfl, rfl, rfl⟩ := h124
                  refine G_if_ne (tgt := 132) hC dX10_isItem_127 (by decide) (by omega) (fun c127 => ?_) (fun c127 => ?_)
                  · rw [eM]
                    refine G_al0 hC dX10_isItem_132 ?_
                    refine G_il1 hC dX10_isItem_133 ?_
                    refine G_bipush hC dX10_isItem_134 (by decide) ?_
                    refine G_icmp_ne (tgt := 144) hC dX10_isItem_136 (by decide) (by omega) (by omega) (fun c136 => ?_) (fun c136 => ?_)
                    · refine G_al0 hC dX10_isItem_144 ?_
                      refine G_getI hC fl_X10_134 (by first | assumption | rfl) (by omega) dX10_isItem_145 ?_
                      rw [hb24]
                      refine G_putI hC fl_X10_134 (by first | assumption | rfl) (by omega) dX10_isItem_148 ?_
                      refine G_al0 hC dX10_isItem_151 ?_
                      refine G_il1 hC dX10_isItem_152 ?_
                      refine G_bipush hC dX10_isItem_153 (by decide) ?_
                      refine G_icmp_ne (tgt := 163) hC dX10_isItem_155 (by decide) (by omega) (by omega) (fun c155 => ?_) (fun c155 => ?_)
                      · refine G_al0 hC dX10_isItem_163 ?_
                        refine G_getI hC fl_X10_137 (by first | assumption | rfl) (by omega) dX10_isItem_164 ?_
                        rw [upM_nej (by omega), hb25]
                        refine G_putI hC fl_X10_137 (by first | assumption | rfl) (by omega) dX10_isItem_167 ?_
                        refine G_al0 hC dX10_isItem_170 ?_
                        refine G_il1 hC dX10_isItem_171 ?_
                        refine G_bipush hC dX10_isItem_172 (by decide) ?_
                        refine G_icmp_ne (tgt := 182) hC dX10_isItem_174 (by decide) (by omega) (by omega) (fun c174 => ?_) (fun c174 => ?_)
                        · exact absurd c174 (by omega)
                        · refine G_il4 hC dX10_isItem_177 ?_
                          refine G_goto (tgt := 186) hC dX10_isItem_179 (by decide) ?_
                          refine G_putI hC fl_X10_140 (by first | assumption | rfl) (by omega) dX10_isItem_186 ?_
                          refine G_al0 hC dX10_isItem_189 ?_
                          refine G_il1 hC dX10_isItem_190 ?_
                          refine G_bipush hC dX10_isItem_191 (by decide) ?_
                          refine G_icmp_ne (tgt := 201) hC dX10_isItem_193 (by decide) (by omega) (by omega) (fun c193 => ?_) (fun c193 => ?_)
                          · refine G_al0 hC dX10_isItem_201 ?_
                            refine G_getI hC fl_X10_143 (by first | assumption | rfl) (by omega) dX10_isItem_202 ?_
                            rw [upM_nej (by omega), upM_nej (by omega), upM_nej (by omega), hb27]
                            refine G_putI hC fl_X10_143 (by first | assumption | rfl) (by omega) dX10_isItem_205 ?_
                            refine G_iconst hC dX10_isItem_208 ?_
                            exact G_zret hC hQ dX10_isItem_209 (by omega) ⟨_, rfl, rfl, hKf _ _ _ _, Or.inr ⟨rfl, q1 + 1, _, hi, MsR_4 hQb ⟨_, ToR_2 u6 (Or.inr (Or.inr (Or.inl ⟨rfl, by omega, rfl⟩)))⟩ rfl rfl rfl rfl rfl rfl, hqf _ _ _ _, by omega, by omega⟩⟩
                          · exact absurd c193 (by omega)
                      · exact absurd c155 (by omega)
                    · exact absurd c136 (by omega)
                  · exact absurd c127 (by omega)
              · rw [if_neg k3] at hi hin2
                by_cases k4 : tx p = 99
                · rw [if_pos k4] at hin2
                  rw [if_pos k4, if_pos (by omega)] at hi
                  refine G_al0 hC dX10_isItem_105 ?_
                  refine G_callVI hC (c_X10_number1 hGr hT1 hE1 hlen hq1 (by omega) hn) mv_X10_150 (by first | assumption | rfl) (by omega) (by decide) rfl (by decide) dX10_isItem_106 rfl (Nat.le_of_ble_eq_true rfl) rfl (fun z106 M106 P106 h106 => ?_)
                  obtain ⟨rfl, rfl, rfl⟩ := h106
                  rw [ecoll]
                  refine G_is4 hC dX10_isItem_109 rfl ?_
                  refine G_il4 hC dX10_isItem_111 ?_
                  refine G_il2 hC dX10_isItem_113 ?_
                  refine G_il3 hC dX10_isItem_114 ?_
                  refine G_callSI hC (c_in1 (by unfold i32r; omega) (by unfold i32r; omega) (by unfold i32r; omega) (by omega)) ms_X10_119 (by decide) rfl (by decide) dX10_isItem_115 rfl (Nat.le_of_ble_eq_true rfl) rfl (fun z115 M115 P115 h115 => ?_)
                  obtain ⟨rfl, rfl, rfl⟩ := h115
                  refine G_if_eq (tgt := 130) hC dX10_isItem_118 (by decide) (by omega) (fun c118 => ?_) (fun c118 => ?_)
                  · exact absurd c118 (by omega)
                  · refine G_al0 hC dX10_isItem_121 ?_
                    refine G_bipush hC dX10_isItem_122 (by decide) ?_
                    refine G_callVI hC (c_X10_isSign1 (q := 59) hGr hTa hEa hlen hqa (by omega) hsg) mv_X10_153 (by first | assumption | rfl) (by omega) (by decide) rfl (by decide) dX10_isItem_124 rfl (Nat.le_of_ble_eq_true rfl) rfl (fun z124 M124 P124 h124 => ?_)
                    obtain ⟨rfl, rfl, rfl⟩ := h124
                    refine G_if_ne (tgt := 132) hC dX10_isItem_127 (by decide) (by omega) (fun c127 => ?_) (fun c127 => ?_)
                    · rw [eM]
                      refine G_al0 hC dX10_isItem_132 ?_
                      refine G_il1 hC dX10_isItem_133 ?_
                      refine G_bipush hC dX10_isItem_134 (by decide) ?_
                      refine G_icmp_ne (tgt := 144) hC dX10_isItem_136 (by decide) (by omega) (by omega) (fun c136 => ?_) (fun c136 => ?_)
                      · refine G_al0 hC dX10_isItem_144 ?_
                        refine G_getI hC fl_X10_134 (by first | assumption | rfl) (by omega) dX10_isItem_145 ?_
                        rw [hb24]
                        refine G_putI hC fl_X10_134 (by first | assumption | rfl) (by omega) dX10_isItem_148 ?_
                        refine G_al0 hC dX10_isItem_151 ?_
                        refine G_il1 hC dX10_isItem_152 ?_
                        refine G_bipush hC dX10_isItem_153 (by decide) ?_
                        refine G_icmp_ne (tgt := 163) hC dX10_isItem_155 (by decide) (by omega) (by omega) (fun c155 => ?_) (fun c155 => ?_)
                        · refine G_al0 hC dX10_isItem_163 ?_
                          refine G_getI hC fl_X10_137 (by first | assumption | rfl) (by omega) dX10_isItem_164 ?_
                          rw [upM_nej (by omega), hb25]
                          refine G_putI hC fl_X10_137 (by first | assumption | rfl) (by omega) dX10_isItem_167 ?_
                          refine G_al0 hC dX10_isItem_170 ?_
                          refine G_il1 hC dX10_isItem_171 ?_
                          refine G_bipush hC dX10_isItem_172 (by decide) ?_
                          refine G_icmp_ne (tgt := 182) hC dX10_isItem_174 (by decide) (by omega) (by omega) (fun c174 => ?_) (fun c174 => ?_)
                          · refine G_al0 hC dX10_isItem_182 ?_
                            refine G_getI hC fl_X10_140 (by first | assumption | rfl) (by omega) dX10_isItem_183 ?_
                            rw [upM_nej (by omega), upM_nej (by omega), hb26]
                            refine G_putI hC fl_X10_140 (by first | assumption | rfl) (by omega) dX10_isItem_186 ?_
                            refine G_al0 hC dX10_isItem_189 ?_
                            refine G_il1 hC dX10_isItem_190 ?_
                            refine G_bipush hC dX10_isItem_191 (by decide) ?_
                            refine G_icmp_ne (tgt := 201) hC dX10_isItem_193 (by decide) (by omega) (by omega) (fun c193 => ?_) (fun c193 => ?_)
                            · exact absurd c193 (by omega)
                            · refine G_il4 hC dX10_isItem_196 ?_
                              refine G_goto (tgt := 205) hC dX10_isItem_198 (by decide) ?_
                              refine G_putI hC fl_X10_143 (by first | assumption | rfl) (by omega) dX10_isItem_205 ?_
                              refine G_iconst hC dX10_isItem_208 ?_
                              exact G_zret hC hQ dX10_isItem_209 (by omega) ⟨_, rfl, rfl, hKf _ _ _ _, Or.inr ⟨rfl, q1 + 1, _, hi, MsR_4 hQb ⟨_, ToR_2 u6 (Or.inr (Or.inr (Or.inr ⟨rfl, by omega, rfl⟩)))⟩ rfl rfl rfl rfl rfl rfl, hqf _ _ _ _, by omega, by omega⟩⟩
                          · exact absurd c174 (by omega)
                        · exact absurd c155 (by omega)
                      · exact absurd c136 (by omega)
                    · exact absurd c127 (by omega)
                · rw [if_neg k4] at hin2
                  omega
        · rw [nsp_2 hn hsg] at hi
          refine G_al0 hC dX10_isItem_105 ?_
          refine G_callVI hC (c_X10_number1 hGr hT1 hE1 hlen hq1 (by omega) hn) mv_X10_150 (by first | assumption | rfl) (by omega) (by decide) rfl (by decide) dX10_isItem_106 rfl (Nat.le_of_ble_eq_true rfl) rfl (fun z106 M106 P106 h106 => ?_)
          obtain ⟨rfl, rfl, rfl⟩ := h106
          rw [ecoll]
          refine G_is4 hC dX10_isItem_109 rfl ?_
          refine G_il4 hC dX10_isItem_111 ?_
          refine G_il2 hC dX10_isItem_113 ?_
          refine G_il3 hC dX10_isItem_114 ?_
          refine G_callSI hC (c_in1 (by unfold i32r; omega) (by unfold i32r; omega) (by unfold i32r; omega) (by omega)) ms_X10_119 (by decide) rfl (by decide) dX10_isItem_115 rfl (Nat.le_of_ble_eq_true rfl) rfl (fun z115 M115 P115 h115 => ?_)
          obtain ⟨rfl, rfl, rfl⟩ := h115
          refine G_if_eq (tgt := 130) hC dX10_isItem_118 (by decide) (by omega) (fun c118 => ?_) (fun c118 => ?_)
          · exact absurd c118 (by omega)
          · refine G_al0 hC dX10_isItem_121 ?_
            refine G_bipush hC dX10_isItem_122 (by decide) ?_
            refine G_callVI hC (c_X10_isSign0 (q := 59) hGr hTa hEa hlen hqa (by omega) (by omega) hsg) mv_X10_153 (by first | assumption | rfl) (by omega) (by decide) rfl (by decide) dX10_isItem_124 rfl (Nat.le_of_ble_eq_true rfl) rfl (fun z124 M124 P124 h124 => ?_)
            obtain ⟨rfl, rfl, rfl⟩ := h124
            refine G_if_ne (tgt := 132) hC dX10_isItem_127 (by decide) (by omega) (fun c127 => ?_) (fun c127 => ?_)
            · exact absurd rfl c127
            · refine G_iconst hC dX10_isItem_130 ?_
              exact G_zret hC hQ dX10_isItem_131 (by omega) ⟨_, rfl, rfl, hKa, Or.inl ⟨rfl, hi⟩⟩
      · have hbad : itm tx len p Q = none := by
          rw [hi]
          cases hns : nsp tx len (p + 1) 59 with
          | none => rfl
          | some y =>
            obtain ⟨y1, y2⟩ := y
            have : y1 = v := by
              unfold nsp at hns; rw [hn] at hns; simp only at hns
              by_cases hz : q1 < len ∧ tx q1 = 59
              · rw [if_pos hz] at hns; cases hns; rfl
              · rw [if_neg hz] at hns; cases hns
            rw [this]
            exact nEnd_0 hnv.1 (by rw [← hlea, ← hmo]; exact hin)
        refine G_al0 hC dX10_isItem_105 ?_
        refine G_callVI hC (c_X10_number1 hGr hT1 hE1 hlen hq1 (by omega) hn) mv_X10_150 (by first | assumption | rfl) (by omega) (by decide) rfl (by decide) dX10_isItem_106 rfl (Nat.le_of_ble_eq_true rfl) rfl (fun z106 M106 P106 h106 => ?_)
        obtain ⟨rfl, rfl, rfl⟩ := h106
        rw [ecoll]
        refine G_is4 hC dX10_isItem_109 rfl ?_
        refine G_il4 hC dX10_isItem_111 ?_
        refine G_il2 hC dX10_isItem_113 ?_
        refine G_il3 hC dX10_isItem_114 ?_
        refine G_callSI hC (c_in0 (by unfold i32r; omega) (by unfold i32r; omega) (by unfold i32r; omega) (by omega)) ms_X10_119 (by decide) rfl (by decide) dX10_isItem_115 rfl (Nat.le_of_ble_eq_true rfl) rfl (fun z115 M115 P115 h115 => ?_)
        obtain ⟨rfl, rfl, rfl⟩ := h115
        refine G_if_eq (tgt := 130) hC dX10_isItem_118 (by decide) (by omega) (fun c118 => ?_) (fun c118 => ?_)
        · refine G_iconst hC dX10_isItem_130 ?_
          exact G_zret hC hQ dX10_isItem_131 (by omega) ⟨_, rfl, rfl, hKa, Or.inl ⟨rfl, hbad⟩⟩
        · exact absurd rfl c118
  refine G_al0 hC dX10_isItem_0 ?_
  refine G_callVI hC (c_X10_here hGr hT hE hlen hp (by omega)) mv_X10_146 (by first | assumption | rfl) (by omega) (by decide) rfl (by decide) dX10_isItem_1 rfl (Nat.le_of_ble_eq_true rfl) rfl (fun z1 M1 P1 h1 => ?_)
  obtain ⟨rfl, rfl, rfl⟩ := h1
  rw [hcp]
  refine G_is1 hC dX10_isItem_4 rfl ?_
  refine G_al0 hC dX10_isItem_5 ?_
  refine G_dup hC dX10_isItem_6 rfl ?_
  refine G_getI hC fl_X10_131 (by first | assumption | rfl) (by omega) dX10_isItem_7 ?_
  rw [hp]
  refine G_iconst hC dX10_isItem_10 ?_
  refine G_iadd hC dX10_isItem_11 ?_
  refine G_putI hC fl_X10_131 (by first | assumption | rfl) (by omega) dX10_isItem_12 ?_
  refine G_il1 hC dX10_isItem_15 ?_
  refine G_bipush hC dX10_isItem_16 (by decide) ?_
  refine G_icmp_ne (tgt := 26) hC dX10_isItem_18 (by decide) (by omega) (by omega) (fun c18 => ?_) (fun c18 => ?_)
  · refine G_il1 hC dX10_isItem_26 ?_
    refine G_bipush hC dX10_isItem_27 (by decide) ?_
    refine G_icmp_ne (tgt := 37) hC dX10_isItem_29 (by decide) (by omega) (by omega) (fun c29 => ?_) (fun c29 => ?_)
    · refine G_il1 hC dX10_isItem_37 ?_
      refine G_bipush hC dX10_isItem_38 (by decide) ?_
      refine G_icmp_ne (tgt := 47) hC dX10_isItem_40 (by decide) (by omega) (by omega) (fun c40 => ?_) (fun c40 => ?_)
      · refine G_iconst hC dX10_isItem_47 ?_
        refine G_is2 hC dX10_isItem_48 rfl ?_
        refine G_il1 hC dX10_isItem_49 ?_
        refine G_bipush hC dX10_isItem_50 (by decide) ?_
        refine G_icmp_ne (tgt := 71) hC dX10_isItem_52 (by decide) (by omega) (by omega) (fun c52 => ?_) (fun c52 => ?_)
        · refine G_il1 hC dX10_isItem_71 ?_
          refine G_bipush hC dX10_isItem_72 (by decide) ?_
          refine G_icmp_ne (tgt := 81) hC dX10_isItem_74 (by decide) (by omega) (by omega) (fun c74 => ?_) (fun c74 => ?_)
          · refine G_il1 hC dX10_isItem_81 ?_
            refine G_bipush hC dX10_isItem_82 (by decide) ?_
            refine G_icmp_ne (tgt := 92) hC dX10_isItem_84 (by decide) (by omega) (by omega) (fun c84 => ?_) (fun c84 => ?_)
            · refine G_il1 hC dX10_isItem_92 ?_
              refine G_bipush hC dX10_isItem_93 (by decide) ?_
              refine G_icmp_ne (tgt := 103) hC dX10_isItem_95 (by decide) (by omega) (by omega) (fun c95 => ?_) (fun c95 => ?_)
              · refine G_iconst hC dX10_isItem_103 ?_
                refine G_is3 hC dX10_isItem_104 rfl ?_
                exact fin _ _ _ (by unfold lstI; split <;> omega) (by
                  unfold mstI
                  repeat' split
                  all_goals omega) (by omega) (by omega)
              · refine G_bipush hC dX10_isItem_98 (by decide) ?_
                refine G_goto (tgt := 104) hC dX10_isItem_100 (by decide) ?_
                refine G_is3 hC dX10_isItem_104 rfl ?_
                exact fin _ _ _ (by unfold lstI; split <;> omega) (by
                  unfold mstI
                  repeat' split
                  all_goals omega) (by omega) (by omega)
            · refine G_bipush hC dX10_isItem_87 (by decide) ?_
              refine G_goto (tgt := 104) hC dX10_isItem_89 (by decide) ?_
              refine G_is3 hC dX10_isItem_104 rfl ?_
              exact fin _ _ _ (by unfold lstI; split <;> omega) (by
                unfold mstI
                repeat' split
                all_goals omega) (by omega) (by omega)
          · refine G_iconst hC dX10_isItem_77 ?_
            refine G_goto (tgt := 104) hC dX10_isItem_78 (by decide) ?_
            refine G_is3 hC dX10_isItem_104 rfl ?_
            exact fin _ _ _ (by unfold lstI; split <;> omega) (by
              unfold mstI
              repeat' split
              all_goals omega) (by omega) (by omega)
        · refine G_al0 hC dX10_isItem_55 ?_
          refine G_getI hC fl_X10_109 (by first | assumption | rfl) (by omega) dX10_isItem_56 ?_
          rw [hQ1.1.1]
          refine G_if_le (tgt := 66) hC dX10_isItem_59 (by decide) (by omega) (fun c59 => ?_) (fun c59 => ?_)
          · refine G_bipush hC dX10_isItem_66 (by decide) ?_
            refine G_goto (tgt := 104) hC dX10_isItem_68 (by decide) ?_
            refine G_is3 hC dX10_isItem_104 rfl ?_
            exact fin _ _ _ (by unfold lstI; split <;> omega) (by
              unfold mstI
              repeat' split
              all_goals omega) (by omega) (by omega)
          · refine G_iconst hC dX10_isItem_62 ?_
            refine G_goto (tgt := 104) hC dX10_isItem_63 (by decide) ?_
            refine G_is3 hC dX10_isItem_104 rfl ?_
            exact fin _ _ _ (by unfold lstI; split <;> omega) (by
              unfold mstI
              repeat' split
              all_goals omega) (by omega) (by omega)
      · refine G_iconst hC dX10_isItem_43 ?_
        refine G_goto (tgt := 48) hC dX10_isItem_44 (by decide) ?_
        refine G_is2 hC dX10_isItem_48 rfl ?_
        refine G_il1 hC dX10_isItem_49 ?_
        refine G_bipush hC dX10_isItem_50 (by decide) ?_
        refine G_icmp_ne (tgt := 71) hC dX10_isItem_52 (by decide) (by omega) (by omega) (fun c52 => ?_) (fun c52 => ?_)
        · refine G_il1 hC dX10_isItem_71 ?_
          refine G_bipush hC dX10_isItem_72 (by decide) ?_
          refine G_icmp_ne (tgt := 81) hC dX10_isItem_74 (by decide) (by omega) (by omega) (fun c74 => ?_) (fun c74 => ?_)
          · refine G_il1 hC dX10_isItem_81 ?_
            refine G_bipush hC dX10_isItem_82 (by decide) ?_
            refine G_icmp_ne (tgt := 92) hC dX10_isItem_84 (by decide) (by omega) (by omega) (fun c84 => ?_) (fun c84 => ?_)
            · refine G_il1 hC dX10_isItem_92 ?_
              refine G_bipush hC dX10_isItem_93 (by decide) ?_
              refine G_icmp_ne (tgt := 103) hC dX10_isItem_95 (by decide) (by omega) (by omega) (fun c95 => ?_) (fun c95 => ?_)
              · refine G_iconst hC dX10_isItem_103 ?_
                refine G_is3 hC dX10_isItem_104 rfl ?_
                exact fin _ _ _ (by unfold lstI; split <;> omega) (by
                  unfold mstI
                  repeat' split
                  all_goals omega) (by omega) (by omega)
              · refine G_bipush hC dX10_isItem_98 (by decide) ?_
                refine G_goto (tgt := 104) hC dX10_isItem_100 (by decide) ?_
                refine G_is3 hC dX10_isItem_104 rfl ?_
                exact fin _ _ _ (by unfold lstI; split <;> omega) (by
                  unfold mstI
                  repeat' split
                  all_goals omega) (by omega) (by omega)
            · refine G_bipush hC dX10_isItem_87 (by decide) ?_
              refine G_goto (tgt := 104) hC dX10_isItem_89 (by decide) ?_
              refine G_is3 hC dX10_isItem_104 rfl ?_
              exact fin _ _ _ (by unfold lstI; split <;> omega) (by
                unfold mstI
                repeat' split
                all_goals omega) (by omega) (by omega)
          · refine G_iconst hC dX10_isItem_77 ?_
            refine G_goto (tgt := 104) hC dX10_isItem_78 (by decide) ?_
            refine G_is3 hC dX10_isItem_104 rfl ?_
            exact fin _ _ _ (by unfold lstI; split <;> omega) (by
              unfold mstI
              repeat' split
              all_goals omega) (by omega) (by omega)
        · refine G_al0 hC dX10_isItem_55 ?_
          refine G_getI hC fl_X10_109 (by first | assumption | rfl) (by omega) dX10_isItem_56 ?_
          rw [hQ1.1.1]
          refine G_if_le (tgt := 66) hC dX10_isItem_59 (by decide) (by omega) (fun c59 => ?_) (fun c59 => ?_)
          · refine G_bipush hC dX10_isItem_66 (by decide) ?_
            refine G_goto (tgt := 104) hC dX10_isItem_68 (by decide) ?_
            refine G_is3 hC dX10_isItem_104 rfl ?_
            exact fin _ _ _ (by unfold lstI; split <;> omega) (by
              unfold mstI
              repeat' split
              all_goals omega) (by omega) (by omega)
          · refine G_iconst hC dX10_isItem_62 ?_
            refine G_goto (tgt := 104) hC dX10_isItem_63 (by decide) ?_
            refine G_is3 hC dX10_isItem_104 rfl ?_
            exact fin _ _ _ (by unfold lstI; split <;> omega) (by
              unfold mstI
              repeat' split
              all_goals omega) (by omega) (by omega)
    · refine G_al0 hC dX10_isItem_32 ?_
      refine G_callVI hC (c_X10_isWorthItem (p := p + 1) hGr hT1 hE1 hlen hq1 (by omega) hQ1) mv_X10_164 (by first | assumption | rfl) (by omega) (by decide) rfl (by decide) dX10_isItem_33 rfl (Nat.le_of_ble_eq_true rfl) rfl (fun z33 M33 P33 h33 => ?_)
      obtain ⟨rfl, k1, hz⟩ := h33
      have hiW := itm_W (len := len) (S := Q) (show tx p = 119 by omega)
      have hz01 : z33 = 0 ∨ z33 = 1 := by rcases hz with ⟨e, -⟩ | ⟨e, -⟩ <;> omega
      exact G_zret hC hQ dX10_isItem_36 (by omega) ⟨_, rfl, rfl, hK1.trans k1, by
  rcases hz with ⟨e, y⟩ | ⟨e, p', S', y1, y2, y3, y4, y5⟩
  · exact Or.inl ⟨e, by rw [hiW]; exact y⟩
  · exact Or.inr ⟨e, p', S', by rw [hiW]; exact y1, y2, y3, by omega, by omega⟩⟩
  · refine G_al0 hC dX10_isItem_21 ?_
    refine G_callVI hC (c_X10_isGuestItem (p := p + 1) hGr hT1 hE1 hlen hq1 (by omega) hQ1) mv_X10_160 (by first | assumption | rfl) (by omega) (by decide) rfl (by decide) dX10_isItem_22 rfl (Nat.le_of_ble_eq_true rfl) rfl (fun z22 M22 P22 h22 => ?_)
    obtain ⟨rfl, k1, hz⟩ := h22
    have hiW := itm_G (len := len) (S := Q) (show tx p = 103 by omega)
    have hz01 : z22 = 0 ∨ z22 = 1 := by rcases hz with ⟨e, -⟩ | ⟨e, -⟩ <;> omega
    exact G_zret hC hQ dX10_isItem_25 (by omega) ⟨_, rfl, rfl, hK1.trans k1, by
  rcases hz with ⟨e, y⟩ | ⟨e, p', S', y1, y2, y3, y4, y5⟩
  · exact Or.inl ⟨e, by rw [hiW]; exact y⟩
  · exact Or.inr ⟨e, p', S', by rw [hiW]; exact y1, y2, y3, by omega, by omega⟩⟩
