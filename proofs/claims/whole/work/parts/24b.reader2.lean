theorem nsp_le {tx : Nat → Nat} {len q sep v q2 : Nat} (h : nsp tx len q sep = some (v, q2)) : v ≤ 99 ∧ q + 1 < q2 ∧ q2 ≤ q + 3 := by
  unfold nsp at h
  cases h1 : numN tx len q with
  | none => rw [h1] at h; cases h
  | some x =>
    obtain ⟨v', q1⟩ := x
    rw [h1] at h
    have := numN_le h1
    simp only at h
    split at h
    · cases h; omega
    · cases h
def wsM (M : Mem) (n p : Nat) (tx : Nat → Nat) (d : Nat) : Mem := fun a b => if a = 6 ∧ b = 4 then ((p + d : Nat) : Int) else if a = 5 ∧ 6 * (n - 1) ≤ b ∧ b < 6 * (n - 1) + d then ((tx (p + (b - 6 * (n - 1))) - 48 : Nat) : Int) else M a b
theorem wsM_0 {M : Mem} {n p : Nat} {tx : Nat → Nat} (h : M 6 4 = (p : Int)) : wsM M n p tx 0 = M := by
  funext a b
  unfold wsM
  by_cases h1 : a = 6 ∧ b = 4
  · rw [if_pos h1, h1.1, h1.2, h]; rfl
  · rw [if_neg h1, if_neg (by omega)]
theorem wsM_s {M : Mem} {n p d : Nat} {tx : Nat → Nat} {v : Int} (hv : v = ((tx (p + d) - 48 : Nat) : Int)) : upM (upM (wsM M n p tx d) 6 4 (p + d + 1)) 5 (6 * (n - 1) + d) v = wsM M n p tx (d + 1) := by
  funext a b
  unfold wsM upM
  dsimp only
  by_cases h1 : a = 6 ∧ b = 4
  · rw [if_neg (by omega), if_pos h1, if_pos h1]; omega
  · by_cases h2 : a = 5 ∧ b = 6 * (n - 1) + d
    · rw [if_pos h2, if_neg h1, if_pos ⟨h2.1, by omega, by omega⟩, hv, show p + (b - 6 * (n - 1)) = p + d by omega]
    · rw [if_neg h2, if_neg h1, if_neg h1, if_neg h1]
      by_cases h3 : a = 5 ∧ 6 * (n - 1) ≤ b ∧ b < 6 * (n - 1) + d
      · rw [if_pos h3, if_pos ⟨h3.1, h3.2.1, by omega⟩]
      · rw [if_neg h3, if_neg (fun q => by have := q.2; have := q.1; omega)]
theorem wsM_e {M : Mem} {n p d : Nat} {tx : Nat → Nat} {a : Nat} (h6 : a ≠ 6) (h5 : a ≠ 5) (b : Nat) : wsM M n p tx d a b = M a b := by
  unfold wsM; rw [if_neg (fun q => h6 q.1), if_neg (fun q => h5 q.1)]
theorem wsM_6 {M : Mem} {n p d b : Nat} {tx : Nat → Nat} (h : b ≠ 4) : wsM M n p tx d 6 b = M 6 b := by
  unfold wsM; rw [if_neg (fun q => h q.2), if_neg (fun q => by have := q.1; omega)]
theorem wsM_p {M : Mem} {n p d : Nat} {tx : Nat → Nat} : wsM M n p tx d 6 4 = ((p + d : Nat) : Int) := by
  unfold wsM; rw [if_pos ⟨rfl, rfl⟩]
theorem wsM_5 {M : Mem} {n p d b : Nat} {tx : Nat → Nat} : wsM M n p tx d 5 b = if 6 * (n - 1) ≤ b ∧ b < 6 * (n - 1) + d then ((tx (p + (b - 6 * (n - 1))) - 48 : Nat) : Int) else M 5 b := by
  unfold wsM; rw [if_neg (by omega)]
  by_cases h : 6 * (n - 1) ≤ b ∧ b < 6 * (n - 1) + d
  · rw [if_pos ⟨rfl, h⟩, if_pos h]
  · rw [if_neg (fun q => h q.2), if_neg h]
theorem sgZ_r {M : Mem} {tx : Nat → Nat} {len p : Nat} (hT : TxR M tx) (hl : len ≤ 300) : -1 ≤ sgZ tx len p ∧ sgZ tx len p ≤ 255 := by
  unfold sgZ
  split
  · have := (hT p (by omega)).2; omega
  · omega
theorem TxR_x {M M' : Mem} {tx : Nat → Nat} (h : eqx sRd M M') (hT : TxR M tx) : TxR M' tx := fun k hk => by
  rw [h 1 (by unfold sRd; omega)]; exact hT k hk
theorem ToB_e {M M' : Mem} (h : ∀ a, a = 3 ∨ a = 4 ∨ a = 5 → ∀ b, M' a b = M a b) (hB : ToB M) : ToB M' := by
  refine ⟨fun g hg => ?_, fun b hb => ?_⟩
  · rw [h 3 (by omega), h 4 (by omega)]; exact hB.1 g hg
  · rw [h 5 (by omega)]; exact hB.2 b hb
theorem ToR_e {M M' : Mem} {S : TS} (h : ∀ a, a = 2 ∨ a = 3 ∨ a = 4 ∨ a = 5 → ∀ b, M' a b = M a b) (hS : ToR M S) : ToR M' S := by
  unfold ToR at hS ⊢
  simp only [h 2 (by omega), h 3 (by omega), h 4 (by omega), h 5 (by omega)]
  exact hS
theorem ToB_ws {M : Mem} {n p d : Nat} {tx : Nat → Nat} (hB : ToB M) (hf : ∀ i, i < d → 48 ≤ tx (p + i) ∧ tx (p + i) ≤ 57) : ToB (wsM M n p tx d) := by
  refine ⟨fun g hg => ?_, fun b hb => ?_⟩
  · rw [wsM_e (by omega) (by omega), wsM_e (by omega) (by omega)]; exact hB.1 g hg
  · rw [wsM_5]
    split
    · rename_i q
      have := hf (b - 6 * (n - 1)) (by omega)
      omega
    · exact hB.2 b hb
theorem ToR_ws {M : Mem} {S : TS} {p : Nat} {tx : Nat → Nat} (hS : ToR M S) (hn : qn S ≠ 0) (hf : ∀ i, i < qd S → 48 ≤ tx (p + i) ∧ tx (p + i) ≤ 57) : ToR (wsM M (qn S) p tx (qd S)) (setW S (fun d => tx (p + d) - 48)) := by
  obtain ⟨a0, a1, a2, a3, a4, a5, b1, b2, b3, b4, b5, b6, b7, b8, b9, b10, b11⟩ := id hS
  have e2 : ∀ b, wsM M (qn S) p tx (qd S) 2 b = M 2 b := wsM_e (by omega) (by omega)
  unfold ToR
  refine ⟨by rw [e2]; exact a0, by rw [e2]; exact a1, by rw [e2]; exact a2, by rw [e2]; exact a3, by rw [e2]; exact a4, by rw [e2]; exact a5, b1, b2, b3, b4, b5, b6, b7, b8, b9, b10, fun g hg => ?_⟩
  obtain ⟨c1, c2, c3, c4, c5⟩ := b11 g hg
  have hg' : g < qn S := hg
  refine ⟨by rw [wsM_e (by omega) (by omega)]; exact c1, c2, by rw [wsM_e (by omega) (by omega)]; exact c3, c4, fun d hd => ?_⟩
  rw [wsM_5]
  show (if _ then _ else _) = (((if g + 1 = qn S then fun d => if d < qd S then tx (p + d) - 48 else qv S g d else qv S g) d : Nat) : Int) ∧ (if g + 1 = qn S then fun d => if d < qd S then tx (p + d) - 48 else qv S g d else qv S g) d ≤ 9
  by_cases q1 : g + 1 = qn S
  · by_cases q2 : d < qd S
    · rw [if_pos (by omega), if_pos q1]
      simp only [if_pos q2]
      have := hf d q2
      rw [show 6 * g + d - 6 * (qn S - 1) = d by omega]
      exact ⟨rfl, by omega⟩
    · rw [if_neg (by omega), if_pos q1]
      simp only [if_neg q2]
      exact c5 d hd
  · rw [if_neg (by omega), if_neg q1]
    exact c5 d hd
theorem figN_0 {tx : Nat → Nat} {len p : Nat} (h : figN tx len p = none) : ¬ (p < len ∧ 48 ≤ tx p ∧ tx p ≤ 57) := fun q => by
  unfold figN at h; rw [if_pos q] at h; cases h
theorem figN_1 {tx : Nat → Nat} {len p a : Nat} (h : figN tx len p = some a) : (p < len ∧ 48 ≤ tx p ∧ tx p ≤ 57) ∧ a = tx p - 48 := by
  unfold figN at h; split at h
  · cases h; exact ⟨by assumption, rfl⟩
  · cases h
/-- what is the same behind every item -/
def rdK (M M' : Mem) : Prop := eqx sRd M M' ∧ M' 6 3 = M 6 3 ∧ ToB M'
def rwQ (M : Mem) (P : PMem) (tx : Nat → Nat) (len p : Nat) (S : TS) : Int → Mem → PMem → Prop := fun r M' P' => P = P' ∧ rdK M M' ∧ ((r = 0 ∧ itmW tx len p S = none) ∨ (r = 1 ∧ ∃ p' S', itmW tx len p S = some (p', S') ∧ ToR M' S' ∧ M' 6 4 = (p' : Int) ∧ p < p' ∧ p' ≤ p + 12))
theorem itmW_0 {tx : Nat → Nat} {len p : Nat} {S : TS} (h : ¬ (qn S ≠ 0 ∧ (∀ d, d < qd S → p + d < len ∧ 48 ≤ tx (p + d) ∧ tx (p + d) ≤ 57) ∧ p + qd S < len ∧ tx (p + qd S) = 59)) : itmW tx len p S = none := by
  unfold itmW; rw [if_neg h]
theorem itmW_1 {tx : Nat → Nat} {len p : Nat} {S : TS} (h : qn S ≠ 0 ∧ (∀ d, d < qd S → p + d < len ∧ 48 ≤ tx (p + d) ∧ tx (p + d) ≤ 57) ∧ p + qd S < len ∧ tx (p + qd S) = 59) : itmW tx len p S = some (p + qd S + 1, setW S (fun d => tx (p + d) - 48)) := by
  unfold itmW; rw [if_pos h]
theorem rdK_ws {M : Mem} {n p d : Nat} {tx : Nat → Nat} (hB : ToB M) (hf : ∀ i, i < d → 48 ≤ tx (p + i) ∧ tx (p + i) ≤ 57) : rdK M (wsM M n p tx d) := ⟨fun a ha b => wsM_e (fun e => ha (by unfold sRd; omega)) (fun e => ha (by unfold sRd; omega)) b, wsM_6 (by omega), ToB_ws hB hf⟩
theorem rdK_64 {M M' : Mem} {v : Int} (h : rdK M M') : rdK M (upM M' 6 4 v) := ⟨h.1.trans (eqx_up (by unfold sRd; omega)), by rw [upM_nej (by omega)]; exact h.2.1, ToB_e (fun a ha b => upM_ne (by omega) b) h.2.2⟩
set_option maxHeartbeats 4000000 in
set_option maxRecDepth 100000 in
theorem c_X4_readWorths {l : Launch} {tx : Nat → Nat} {len p : Nat} {S : TS} {M : Mem} {P : PMem} (hGr : Gr P) (hT : TxR M tx) (hE : M 6 3 = (len : Int)) (hlen : len ≤ 300) (hp : M 6 4 = (p : Int)) (hp9 : p ≤ 1000) (hS : ToR M S) (hB : ToB M)  : CtI l yX4_readWorths cX4_readWorths 3 (some .boolean) 2 45 45 [vR 6] M P (rwQ M P tx len p S) := by
  refine Ct_of (own := RX4) (L := [vR 6, vX 1, vX 1]) (by decide) rfl rfl (Nat.le_of_ble_eq_true rfl) (fun X Y hl hC hQ => ?_)
  obtain ⟨a0, a1, a2, a3, a4, a5, b1, b2, b3, b4, b5, b6, b7, b8, b9, b10, b11⟩ := id hS
  have hlp : ∀ (c d : Nat) (dv : Int) (x2 : AV), d + c = qd S → dv = (d : Int) → qn S ≠ 0 → (∀ i, i < d → p + i < len ∧ 48 ≤ tx (p + i) ∧ tx (p + i) ≤ 57) → G X Y 14 [vR 6, vI dv, x2] [] (wsM M (qn S) p tx d) P := by
    intro c
    induction c with
    | zero =>
      intro d dv x2 hk e1 hq hf
      subst e1
      have hd : d = qd S := by omega
      have hTw : TxR (wsM M (qn S) p tx d) tx := TxR_x (rdK_ws hB (fun i hi => (hf i hi).2)).1 hT
      have hsr := sgZ_r (p := p + d) hTw hlen
      have w1 : wsM M (qn S) p tx d 2 1 = (qd S : Int) := by rw [wsM_e (by omega) (by omega)]; exact a1
      refine G_il1 hC dX4_readWorths_14 ?_
      refine G_al0 hC dX4_readWorths_15 ?_
      refine G_getR hC fl_X4_18 (by first | assumption | rfl) (by omega) (by first | assumption | exact hGr _ _ _ rfl) dX4_readWorths_16 ?_
      refine G_getI hC fl_X4_61 (by first | assumption | rfl) (by omega) dX4_readWorths_19 ?_
      rw [w1]
      refine G_icmp_ge (tgt := 61) hC dX4_readWorths_22 (by decide) (by omega) (by omega) (fun c22 => ?_) (fun c22 => ?_)
      · refine G_al0 hC dX4_readWorths_61 ?_
        refine G_callVI hC (c_X4_nextByte hGr hTw (by rw [wsM_6 (by omega)]; exact hE) hlen wsM_p (by omega)) mv_X4_38 (by first | assumption | rfl) (by omega) (by decide) rfl (by decide) dX4_readWorths_62 rfl (Nat.le_of_ble_eq_true rfl) rfl (fun z62 M62 P62 h62 => ?_)
        obtain ⟨rfl, rfl, rfl⟩ := h62
        refine G_bipush hC dX4_readWorths_65 (by decide) ?_
        refine G_icmp_ne (tgt := 74) hC dX4_readWorths_67 (by decide) (by omega) (by omega) (fun c67 => ?_) (fun c67 => ?_)
        · refine G_iconst hC dX4_readWorths_74 ?_
          exact G_zret hC hQ dX4_readWorths_75 (by omega) ⟨_, rfl, rfl, rdK_64 (rdK_ws hB (fun i hi => (hf i hi).2)), by
  unfold sgZ at c67
  first
    | exact Or.inr ⟨rfl, p + qd S + 1, _, itmW_1 ⟨hq, by rw [← hd]; exact hf, by split at c67 <;> omega, by rw [← hd]; split at c67 <;> omega⟩, ToR_e (fun a ha b => upM_ne (by omega) b) (by rw [hd]; exact ToR_ws hS hq (by rw [← hd]; exact fun i hi => (hf i hi).2)), by rw [upM_self, hd]; omega, by omega, by omega⟩
    | exact Or.inl ⟨rfl, itmW_0 (fun q => by
        obtain ⟨q1, q2, q3, q4⟩ := q
        rw [← hd] at q3 q4
        rw [if_pos q3] at c67
        omega)⟩⟩
        · refine G_iconst hC dX4_readWorths_70 ?_
          refine G_goto (tgt := 75) hC dX4_readWorths_71 (by decide) ?_
          exact G_zret hC hQ dX4_readWorths_75 (by omega) ⟨_, rfl, rfl, rdK_64 (rdK_ws hB (fun i hi => (hf i hi).2)), by
  unfold sgZ at c67
  first
    | exact Or.inr ⟨rfl, p + qd S + 1, _, itmW_1 ⟨hq, by rw [← hd]; exact hf, by split at c67 <;> omega, by rw [← hd]; split at c67 <;> omega⟩, ToR_e (fun a ha b => upM_ne (by omega) b) (by rw [hd]; exact ToR_ws hS hq (by rw [← hd]; exact fun i hi => (hf i hi).2)), by rw [upM_self, hd]; omega, by omega, by omega⟩
    | exact Or.inl ⟨rfl, itmW_0 (fun q => by
        obtain ⟨q1, q2, q3, q4⟩ := q
        rw [← hd] at q3 q4
        rw [if_pos q3] at c67
        omega)⟩⟩
      · exact absurd c22 (by omega)
    | succ c ih =>
      intro d dv x2 hk e1 hq hf
      subst e1
      have hTw : TxR (wsM M (qn S) p tx d) tx := TxR_x (rdK_ws hB (fun i hi => (hf i hi).2)).1 hT
      have w0 : wsM M (qn S) p tx d 2 0 = (qn S : Int) := by rw [wsM_e (by omega) (by omega)]; exact a0
      have w1 : wsM M (qn S) p tx d 2 1 = (qd S : Int) := by rw [wsM_e (by omega) (by omega)]; exact a1
      cases hfi : figN tx len (p + d) with
      | none =>
        have hf0 := figN_0 hfi
        refine G_il1 hC dX4_readWorths_14 ?_
        refine G_al0 hC dX4_readWorths_15 ?_
        refine G_getR hC fl_X4_18 (by first | assumption | rfl) (by omega) (by first | assumption | exact hGr _ _ _ rfl) dX4_readWorths_16 ?_
        refine G_getI hC fl_X4_61 (by first | assumption | rfl) (by omega) dX4_readWorths_19 ?_
        rw [w1]
        refine G_icmp_ge (tgt := 61) hC dX4_readWorths_22 (by decide) (by omega) (by omega) (fun c22 => ?_) (fun c22 => ?_)
        · exact absurd c22 (by omega)
        · refine G_al0 hC dX4_readWorths_25 ?_
          refine G_callVI hC (c_X4_nextFig0 hGr hTw (by rw [wsM_6 (by omega)]; exact hE) hlen wsM_p (by omega) hfi) mv_X4_90 (by first | assumption | rfl) (by omega) (by decide) rfl (by decide) dX4_readWorths_26 rfl (Nat.le_of_ble_eq_true rfl) rfl (fun z26 M26 P26 h26 => ?_)
          obtain ⟨rfl, rfl, rfl⟩ := h26
          refine G_is2 hC dX4_readWorths_29 rfl ?_
          refine G_il2 hC dX4_readWorths_30 ?_
          refine G_iconst hC dX4_readWorths_31 ?_
          refine G_icmp_ne (tgt := 37) hC dX4_readWorths_32 (by decide) (by omega) (by omega) (fun c32 => ?_) (fun c32 => ?_)
          · exact absurd rfl c32
          · refine G_iconst hC dX4_readWorths_35 ?_
            exact G_zret hC hQ dX4_readWorths_36 (by omega) ⟨_, rfl, rfl, rdK_ws hB (fun i hi => (hf i hi).2), Or.inl ⟨rfl, itmW_0 (fun q => hf0 (q.2.1 d (by omega)))⟩⟩
      | some a =>
        obtain ⟨hf1, hf2⟩ := figN_1 hfi
        refine G_il1 hC dX4_readWorths_14 ?_
        refine G_al0 hC dX4_readWorths_15 ?_
        refine G_getR hC fl_X4_18 (by first | assumption | rfl) (by omega) (by first | assumption | exact hGr _ _ _ rfl) dX4_readWorths_16 ?_
        refine G_getI hC fl_X4_61 (by first | assumption | rfl) (by omega) dX4_readWorths_19 ?_
        rw [w1]
        refine G_icmp_ge (tgt := 61) hC dX4_readWorths_22 (by decide) (by omega) (by omega) (fun c22 => ?_) (fun c22 => ?_)
        · exact absurd c22 (by omega)
        · refine G_al0 hC dX4_readWorths_25 ?_
          refine G_callVI hC (c_X4_nextFig1 hGr hTw (by rw [wsM_6 (by omega)]; exact hE) hlen wsM_p (by omega) hfi) mv_X4_90 (by first | assumption | rfl) (by omega) (by decide) rfl (by decide) dX4_readWorths_26 rfl (Nat.le_of_ble_eq_true rfl) rfl (fun z26 M26 P26 h26 => ?_)
          obtain ⟨rfl, rfl, rfl⟩ := h26
          refine G_is2 hC dX4_readWorths_29 rfl ?_
          refine G_il2 hC dX4_readWorths_30 ?_
          refine G_iconst hC dX4_readWorths_31 ?_
          refine G_icmp_ne (tgt := 37) hC dX4_readWorths_32 (by decide) (by omega) (by omega) (fun c32 => ?_) (fun c32 => ?_)
          · refine G_al0 hC dX4_readWorths_37 ?_
            refine G_getR hC fl_X4_18 (by first | assumption | rfl) (by omega) (by first | assumption | exact hGr _ _ _ rfl) dX4_readWorths_38 ?_
            refine G_al0 hC dX4_readWorths_41 ?_
            refine G_getR hC fl_X4_18 (by first | assumption | rfl) (by omega) (by first | assumption | exact hGr _ _ _ rfl) dX4_readWorths_42 ?_
            refine G_getI hC fl_X4_64 (by first | assumption | rfl) (by omega) dX4_readWorths_45 ?_
            rw [upM_nej (by omega), w0]
            refine G_iconst hC dX4_readWorths_48 ?_
            refine G_isub hC dX4_readWorths_49 ?_
            rw [show (qn S : Int) - 1 = ((qn S - 1 : Nat) : Int) by omega]
            refine G_il1 hC dX4_readWorths_50 ?_
            refine G_il2 hC dX4_readWorths_51 ?_
            refine G_callVV hC (c_X7_setWorth (g := qn S - 1) (d := d) hGr isT2 (by omega) (by omega)) mv_X4_93 (by first | assumption | rfl) (by omega) (by decide) rfl (by decide) dX4_readWorths_52 rfl (Nat.le_of_ble_eq_true rfl) rfl (fun M52 P52 h52 => ?_)
            obtain ⟨rfl, rfl⟩ := h52
            refine G_inc1 hC dX4_readWorths_55 rfl ?_
            refine G_goto (tgt := 14) hC dX4_readWorths_58 (by decide) ?_
            rw [show ((p + d : Nat) : Int) + 1 = (p : Int) + d + 1 by omega, wsM_s (by omega)]
            exact ih (d + 1) _ _ (by omega) (by omega) hq (fun i hi => by
              rcases Nat.lt_or_ge i d with z | z
              · exact hf i z
              · rw [show i = d by omega]; exact hf1)
          · exact absurd c32 (by omega)
  refine G_al0 hC dX4_readWorths_0 ?_
  refine G_getR hC fl_X4_18 (by first | assumption | rfl) (by omega) (by first | assumption | exact hGr _ _ _ rfl) dX4_readWorths_1 ?_
  refine G_getI hC fl_X4_64 (by first | assumption | rfl) (by omega) dX4_readWorths_4 ?_
  rw [a0]
  refine G_if_ne (tgt := 12) hC dX4_readWorths_7 (by decide) (by omega) (fun c7 => ?_) (fun c7 => ?_)
  · refine G_iconst hC dX4_readWorths_12 ?_
    refine G_is1 hC dX4_readWorths_13 rfl ?_
    have h0 := hlp (qd S) 0 0 (vX 1) (by omega) rfl (by omega) (fun i hi => by omega)
    rw [wsM_0 hp] at h0
    exact h0
  · refine G_iconst hC dX4_readWorths_10 ?_
    exact G_zret hC hQ dX4_readWorths_11 (by omega) ⟨_, rfl, rfl, ⟨eqx.refl, rfl, hB⟩, Or.inl ⟨rfl, itmW_0 (fun q => q.1 (by omega))⟩⟩
