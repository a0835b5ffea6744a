theorem ToR_add {M : Mem} {S : TS} {k d w : Nat} (hS : ToR M S) (h : gOK S k d w) : ToR (upM (upM (agM M 2 (qn S) k w 6) 2 5 (enc (ud (qf S) (qn S) (if d = 9 then 7 else d)))) 2 0 (qn S + 1)) (addG S k d w) := by
  obtain ⟨a0, a1, a2, a3, a4, a5, b1, b2, b3, b4, b5, b6, b7, b8, b9, b10, b11⟩ := id hS
  obtain ⟨h1, h2, h3, h4⟩ := h
  have e2 : ∀ b, b ≠ 0 → b ≠ 5 → upM (upM (agM M 2 (qn S) k w 6) 2 5 (enc (ud (qf S) (qn S) (if d = 9 then 7 else d)))) 2 0 (qn S + 1) 2 b = M 2 b := fun b h0 h5 => by rw [upM_nej h0, upM_nej h5, agM_t]
  have e3 : ∀ a b, a ≠ 2 → upM (upM (agM M 2 (qn S) k w 6) 2 5 (enc (ud (qf S) (qn S) (if d = 9 then 7 else d)))) 2 0 (qn S + 1) a b = agM M 2 (qn S) k w 6 a b := fun a b ha => by rw [upM_ne ha, upM_ne ha]
  have hdd : (if d = 9 then 7 else d) < 6 ∨ (if d = 9 then 7 else d) = 7 := by
    rcases h3 with h3 | h3
    · rw [if_pos h3]; omega
    · rw [if_neg (by omega)]; omega
  have hsame : ∀ i, i ≠ qn S → ud (qf S) (qn S) (if d = 9 then 7 else d) i = qf S i := fun i hi => by unfold ud; rw [if_neg hi]
  have hself : ud (qf S) (qn S) (if d = 9 then 7 else d) (qn S) = (if d = 9 then 7 else d) := by unfold ud; rw [if_pos rfl]
  have hfree : ∀ i, (if d = 9 then 7 else d) ≠ 7 → qf S i ≠ (if d = 9 then 7 else d) := fun i hi => by
    by_cases h9 : d = 9
    · rw [if_pos h9] at hi; exact absurd rfl hi
    · rw [if_neg h9] at hi ⊢
      rcases h3 with h3 | h3
      · exact absurd h3 h9
      · rcases Nat.lt_or_ge i 6 with q | q
        · exact h3.2 i q
        · rw [b8 i (by omega)]; omega
  unfold ToR
  refine ⟨by rw [upM_self]; rfl, by rw [e2 _ (by omega) (by omega)]; exact a1, by rw [e2 _ (by omega) (by omega)]; exact a2, by rw [e2 _ (by omega) (by omega)]; exact a3, by rw [e2 _ (by omega) (by omega)]; exact a4, by rw [upM_nej (by omega), upM_self]; rfl, by show qn S + 1 ≤ 6; omega, b2, b3, b4, b5, b6, fun i => ?_, fun i hi => ?_, fun i hi => ?_, fun i j hi hj => ?_, fun g hg => ?_⟩
  · show ud (qf S) (qn S) _ i < 6 ∨ ud (qf S) (qn S) _ i = 7
    by_cases q : i = qn S
    · rw [q, hself]; exact hdd
    · rw [hsame i q]; exact b7 i
  · have hi' : qn S + 1 ≤ i := hi
    show ud (qf S) (qn S) _ i = 7
    rw [hsame i (by omega)]; exact b8 i (by omega)
  · have hi' : ud (qf S) (qn S) (if d = 9 then 7 else d) i ≠ 7 := hi
    show ud (qf S) (qn S) _ i < qd S
    by_cases q : i = qn S
    · rw [q, hself] at hi' ⊢
      rcases h3 with h3 | h3
      · rw [if_pos h3] at hi'; exact absurd rfl hi'
      · rw [if_neg (by omega)]; exact h3.1
    · rw [hsame i q] at hi' ⊢; exact b9 i hi'
  · have hi' : ud (qf S) (qn S) (if d = 9 then 7 else d) i ≠ 7 := hi
    have hj' : ud (qf S) (qn S) (if d = 9 then 7 else d) i = ud (qf S) (qn S) (if d = 9 then 7 else d) j := hj
    by_cases q : i = qn S
    · by_cases q2 : j = qn S
      · omega
      · rw [q, hself] at hi'
        rw [q, hself, hsame j q2] at hj'
        exact absurd hj'.symm (hfree j hi')
    · by_cases q2 : j = qn S
      · rw [hsame i q, q2, hself] at hj'
        rw [hsame i q, hj'] at hi'
        exact absurd hj' (hfree i hi')
      · rw [hsame i q, hsame j q2] at hj'
        rw [hsame i q] at hi'
        exact b10 i j hi' hj'
  · have hg' : g < qn S + 1 := hg
    simp only [e3 3 _ (by omega), e3 4 _ (by omega), e3 5 _ (by omega)]
    by_cases q : g = qn S
    · subst q
      refine ⟨?_, ?_, ?_, ?_, fun x hx => ⟨?_, ?_⟩⟩
      · show agM M 2 (qn S) k w 6 3 (qn S) = ((ud (qk S) (qn S) k (qn S) : Nat) : Int)
        unfold agM ud; rw [if_pos ⟨rfl, rfl⟩, if_pos rfl]
      · show ud (qk S) (qn S) k (qn S) ≤ 3
        unfold ud; rw [if_pos rfl]; exact h2
      · show agM M 2 (qn S) k w 6 4 (qn S) = ((ud (qw S) (qn S) w (qn S) : Nat) : Int)
        unfold agM ud; rw [if_neg (by omega), if_pos ⟨rfl, rfl⟩, if_pos rfl]
      · show ud (qw S) (qn S) w (qn S) < 2 ^ qd S
        unfold ud; rw [if_pos rfl]; exact h4
      · show agM M 2 (qn S) k w 6 5 (6 * qn S + x) = (((if qn S = qn S then fun _ => 1 else qv S (qn S)) x : Nat) : Int)
        unfold agM; rw [if_neg (by omega), if_neg (by omega), if_pos (by omega), if_pos rfl]; rfl
      · show (if qn S = qn S then fun _ => 1 else qv S (qn S)) x ≤ 9
        rw [if_pos rfl]; omega
    · obtain ⟨c1, c2, c3, c4, c5⟩ := b11 g (by omega)
      refine ⟨?_, ?_, ?_, ?_, fun x hx => ?_⟩
      · show agM M 2 (qn S) k w 6 3 g = ((ud (qk S) (qn S) k g : Nat) : Int)
        unfold agM ud; rw [if_neg (by omega), if_neg (by omega), if_neg (by omega), if_neg q]; exact c1
      · show ud (qk S) (qn S) k g ≤ 3
        unfold ud; rw [if_neg q]; exact c2
      · show agM M 2 (qn S) k w 6 4 g = ((ud (qw S) (qn S) w g : Nat) : Int)
        unfold agM ud; rw [if_neg (by omega), if_neg (by omega), if_neg (by omega), if_neg q]; exact c3
      · show ud (qw S) (qn S) w g < 2 ^ qd S
        unfold ud; rw [if_neg q]; exact c4
      · have := c5 x hx
        show agM M 2 (qn S) k w 6 5 (6 * g + x) = (((if g = qn S then fun _ => 1 else qv S g) x : Nat) : Int) ∧ (if g = qn S then fun _ => 1 else qv S g) x ≤ 9
        unfold agM; rw [if_neg (by omega), if_neg (by omega), if_neg (by omega), if_neg q]
        exact this
theorem ToB_add {M : Mem} {S : TS} {k d w : Nat} {e : Int} (hS : ToR M S) (hB : ToB M) (h : gOK S k d w) : ToB (upM (upM (agM M 2 (qn S) k w 6) 2 5 e) 2 0 (qn S + 1)) := by
  obtain ⟨h1, h2, h3, h4⟩ := h
  have b3 : qd S ≤ 6 := hS.2.2.2.2.2.2.2.2.1
  have h6 : 2 ^ qd S ≤ 2 ^ 6 := Nat.pow_le_pow_right (by omega) b3
  refine ToB_e (M := agM M 2 (qn S) k w 6) (fun a ha b => by rw [upM_ne (by omega), upM_ne (by omega)]) ⟨fun g hg => ?_, fun b hb => ?_⟩
  · have := hB.1 g hg
    unfold agM
    constructor
    · by_cases q : g = qn S
      · rw [if_pos ⟨rfl, q⟩]; omega
      · rw [if_neg (by omega), if_neg (by omega), if_neg (by omega)]; exact this.1
    · by_cases q : g = qn S
      · rw [if_neg (by omega), if_pos ⟨rfl, q⟩]; omega
      · rw [if_neg (by omega), if_neg (by omega), if_neg (by omega)]; exact this.2
  · have := hB.2 b hb
    unfold agM
    rw [if_neg (by omega), if_neg (by omega)]
    split <;> omega
theorem ToR_2 {M : Mem} {S S' : TS} {j v : Nat} (hS : ToR M S) (h : (j = 1 ∧ 1 ≤ v ∧ v ≤ 6 ∧ qn S = 0 ∧ S' = ((qn S, v, qr S, qs S, qc S), S.2)) ∨ (j = 2 ∧ v ≤ 1 ∧ S' = ((qn S, qd S, v, qs S, qc S), S.2)) ∨ (j = 3 ∧ v ≤ 99 ∧ S' = ((qn S, qd S, qr S, v, qc S), S.2)) ∨ (j = 4 ∧ v ≤ 9 ∧ S' = ((qn S, qd S, qr S, qs S, v), S.2))) : ToR (upM M 2 j v) S' := by
  obtain ⟨a0, a1, a2, a3, a4, a5, b1, b2, b3, b4, b5, b6, b7, b8, b9, b10, b11⟩ := id hS
  have ex : ∀ a, a ≠ 2 → ∀ b, upM M 2 j v a b = M a b := fun a ha b => upM_ne ha b
  rcases h with ⟨rfl, h1, h2, h3, rfl⟩ | ⟨rfl, h1, rfl⟩ | ⟨rfl, h1, rfl⟩ | ⟨rfl, h1, rfl⟩
  · refine ⟨by rw [upM_nej (by omega)]; exact a0, by rw [upM_self], by rw [upM_nej (by omega)]; exact a2, by rw [upM_nej (by omega)]; exact a3, by rw [upM_nej (by omega)]; exact a4, by rw [upM_nej (by omega)]; exact a5, b1, h1, h2, b4, b5, b6, b7, b8, fun i hi => absurd (b8 i (by omega)) hi, b10, fun g hg => ?_⟩
    have : g < qn S := hg
    omega
  · exact ⟨by rw [upM_nej (by omega)]; exact a0, by rw [upM_nej (by omega)]; exact a1, by rw [upM_self], by rw [upM_nej (by omega)]; exact a3, by rw [upM_nej (by omega)]; exact a4, by rw [upM_nej (by omega)]; exact a5, b1, b2, b3, h1, b5, b6, b7, b8, b9, b10, fun g hg => by simp only [ex 3 (by omega), ex 4 (by omega), ex 5 (by omega)]; exact b11 g hg⟩
  · exact ⟨by rw [upM_nej (by omega)]; exact a0, by rw [upM_nej (by omega)]; exact a1, by rw [upM_nej (by omega)]; exact a2, by rw [upM_self], by rw [upM_nej (by omega)]; exact a4, by rw [upM_nej (by omega)]; exact a5, b1, b2, b3, b4, h1, b6, b7, b8, b9, b10, fun g hg => by simp only [ex 3 (by omega), ex 4 (by omega), ex 5 (by omega)]; exact b11 g hg⟩
  · exact ⟨by rw [upM_nej (by omega)]; exact a0, by rw [upM_nej (by omega)]; exact a1, by rw [upM_nej (by omega)]; exact a2, by rw [upM_nej (by omega)]; exact a3, by rw [upM_self], by rw [upM_nej (by omega)]; exact a5, b1, b2, b3, b4, b5, h1, b7, b8, b9, b10, fun g hg => by simp only [ex 3 (by omega), ex 4 (by omega), ex 5 (by omega)]; exact b11 g hg⟩
theorem rdK_67 {M M' M2 : Mem} (h : rdK M M') (h2 : eqx (fun a => a = 6 ∨ a = 7) M' M2) (h3 : M2 6 3 = M' 6 3) : rdK M M2 := ⟨h.1.trans (h2.mono (fun a ha => by unfold sRd; omega)), h3.trans h.2.1, ToB_e (fun a ha b => h2 a (by omega) b) h.2.2⟩
theorem rdK_2 {M M' : Mem} {j : Nat} {v : Int} (h : rdK M M') : rdK M (upM M' 2 j v) := ⟨h.1.trans (eqx_up (by unfold sRd; omega)), by rw [upM_ne (by omega)]; exact h.2.1, ToB_e (fun a ha b => upM_ne (by omega) b) h.2.2⟩
def riQ (M : Mem) (P : PMem) (tx : Nat → Nat) (len p : Nat) (S : TS) : Int → Mem → PMem → Prop := fun r M' P' => P = P' ∧ rdK M M' ∧ ((r = 0 ∧ itm tx len p S = none) ∨ (r = 1 ∧ ∃ p' S', itm tx len p S = some (p', S') ∧ ToR M' S' ∧ M' 6 4 = (p' : Int) ∧ p < p' ∧ p' ≤ p + 20))
theorem itm_G {tx : Nat → Nat} {len p : Nat} {S : TS} (h : tx p = 103) : itm tx len p S = itmG tx len (p + 1) S := by unfold itm; rw [if_neg (by omega), if_pos h]
theorem itm_W {tx : Nat → Nat} {len p : Nat} {S : TS} (h : tx p = 119) : itm tx len p S = itmW tx len (p + 1) S := by unfold itm; rw [if_pos h]
theorem itm_N {tx : Nat → Nat} {len p : Nat} {S : TS} (h : tx p ≠ 119) (h2 : tx p ≠ 103) : itm tx len p S = itmN tx len (tx p) (p + 1) S := by unfold itm; rw [if_neg h, if_neg h2]
theorem gEnd_1 {S : TS} {k d w p3 : Nat} (h : gOK S k d w) : gEnd S k d w p3 = some (p3, addG S k d w) := by unfold gEnd; rw [if_pos h]
theorem gEnd_0 {S : TS} {k d w p3 : Nat} (h : ¬ gOK S k d w) : gEnd S k d w p3 = none := by unfold gEnd; rw [if_neg h]
set_option maxHeartbeats 4000000 in
set_option maxRecDepth 100000 in
theorem c_X4_readItem {l : Launch} {tx : Nat → Nat} {len p : Nat} {S : TS} {M : Mem} {P : PMem} (hGr : Gr P) (hT : TxR M tx) (hE : M 6 3 = (len : Int)) (hlen : len ≤ 300) (hp : M 6 4 = (p : Int)) (hp9 : p ≤ 800) (hS : ToR M S) (hB : ToB M) (hpl : p < len) : CtI l yX4_readItem cX4_readItem 4 (some .boolean) 4 94 45 [vR 6] M P (riQ M P tx len p S) := by
  refine Ct_of (own := RX4) (L := [vR 6, vX 1, vX 1, vX 1]) (by decide) rfl rfl (Nat.le_of_ble_eq_true rfl) (fun X Y hl hC hQ => ?_)
  have st0 : ∀ (k cnt q : Nat) (kv cv : Int) (c : Int) (M1 : Mem), kv = (k : Int) → cv = (cnt : Int) → k < cnt → cnt ≤ 3 → TxR M1 tx → M1 6 3 = (len : Int) → M1 6 4 = (q : Int) → q ≤ 900 → nsp tx len q (if k + 1 < cnt then 44 else 59) = none → (∀ M2, eqx (fun a => a = 6 ∨ a = 7) M1 M2 → M2 6 3 = M1 6 3 → riQ M P tx len p S 0 M2 P) → G X Y 30 [vR 6, vI c, vI cv, vI kv] [] M1 P := by
    intro k cnt q kv cv c M1 e1 e2 hk hc hT1 hE1 hp1 hq hn hpo
    subst e1 e2
    cases hnm : numN tx len q with
    | none =>
      refine G_il3 hC dX4_readItem_30 ?_
      refine G_il2 hC dX4_readItem_31 ?_
      refine G_icmp_ge (tgt := 72) hC dX4_readItem_32 (by decide) (by omega) (by omega) (fun c32 => ?_) (fun c32 => ?_)
      · exact absurd c32 (by omega)
      · refine G_al0 hC dX4_readItem_35 ?_
        refine G_il3 hC dX4_readItem_36 ?_
        refine G_callVI hC (c_X4_readNum0 hGr hT1 hE1 hlen hp1 (by omega) hnm) mv_X4_45 (by first | assumption | rfl) (by omega) (by decide) rfl (by decide) dX4_readItem_37 rfl (Nat.le_of_ble_eq_true rfl) rfl (fun z37 M37 P37 h37 => ?_)
        obtain ⟨rfl, rfl, rfl⟩ := h37
        refine G_if_eq (tgt := 64) hC dX4_readItem_40 (by decide) (by omega) (fun c40 => ?_) (fun c40 => ?_)
        · refine G_iconst hC dX4_readItem_64 ?_
          exact G_zret hC hQ dX4_readItem_65 (by omega) ⟨_, rfl, hpo _ eqx.refl rfl⟩
        · exact absurd rfl c40
    | some x =>
      obtain ⟨v, q1⟩ := x
      have hle := numN_le hnm
      have hT2 : TxR (upM (upM M1 6 4 q1) 7 k v) tx := TxR_6 (TxR_6 hT1 (by omega)) (by omega)
      have hE2 : (upM (upM M1 6 4 q1) 7 k v) 6 3 = (len : Int) := by rw [upM_ne (by omega), upM_nej (by omega)]; exact hE1
      have hp2 : (upM (upM M1 6 4 q1) 7 k v) 6 4 = (q1 : Int) := by rw [upM_ne (by omega), upM_self]
      have hsr := sgZ_r (p := q1) hT2 hlen
      have hfin := hpo (upM (upM (upM M1 6 4 q1) 7 k v) 6 4 (q1 + 1)) (fun a ha b => by rw [upM_ne (by omega), upM_ne (by omega), upM_ne (by omega)]) (by rw [upM_nej (by omega)]; exact hE2.trans hE1.symm)
      have hbad : ¬ sgZ tx len q1 = if k + 1 < cnt then 44 else 59 := fun e => by
        unfold nsp at hn; rw [hnm] at hn
        simp only at hn
        unfold sgZ at e
        have hq1 : q1 < len := by
          refine Classical.byContradiction fun z => ?_
          rw [if_neg z] at e; split at e <;> omega
        rw [if_pos hq1] at e
        rw [if_pos ⟨hq1, by split at e <;> split <;> omega⟩] at hn
        cases hn
      refine G_il3 hC dX4_readItem_30 ?_
      refine G_il2 hC dX4_readItem_31 ?_
      refine G_icmp_ge (tgt := 72) hC dX4_readItem_32 (by decide) (by omega) (by omega) (fun c32 => ?_) (fun c32 => ?_)
      · exact absurd c32 (by omega)
      · refine G_al0 hC dX4_readItem_35 ?_
        refine G_il3 hC dX4_readItem_36 ?_
        refine G_callVI hC (c_X4_readNum1 hGr hT1 hE1 hlen hp1 (by omega) hnm (by omega)) mv_X4_45 (by first | assumption | rfl) (by omega) (by decide) rfl (by decide) dX4_readItem_37 rfl (Nat.le_of_ble_eq_true rfl) rfl (fun z37 M37 P37 h37 => ?_)
        obtain ⟨rfl, rfl, rfl⟩ := h37
        refine G_if_eq (tgt := 64) hC dX4_readItem_40 (by decide) (by omega) (fun c40 => ?_) (fun c40 => ?_)
        · exact absurd c40 (by omega)
        · refine G_al0 hC dX4_readItem_43 ?_
          refine G_callVI hC (c_X4_nextByte hGr hT2 hE2 hlen hp2 (by omega)) mv_X4_38 (by first | assumption | rfl) (by omega) (by decide) rfl (by decide) dX4_readItem_44 rfl (Nat.le_of_ble_eq_true rfl) rfl (fun z44 M44 P44 h44 => ?_)
          obtain ⟨rfl, rfl, rfl⟩ := h44
          refine G_il3 hC dX4_readItem_47 ?_
          refine G_il2 hC dX4_readItem_48 ?_
          refine G_iconst hC dX4_readItem_49 ?_
          refine G_isub hC dX4_readItem_50 ?_
          refine G_icmp_ge (tgt := 59) hC dX4_readItem_51 (by decide) (by omega) (by omega) (fun c51 => ?_) (fun c51 => ?_)
          · refine G_bipush hC dX4_readItem_59 (by decide) ?_
            refine G_icmp_eq (tgt := 66) hC dX4_readItem_61 (by decide) (by omega) (by omega) (fun c61 => ?_) (fun c61 => ?_)
            · exact absurd c61 (by first | (rw [if_pos (by omega)] at hbad; exact hbad) | (rw [if_neg (by omega)] at hbad; exact hbad))
            · refine G_iconst hC dX4_readItem_64 ?_
              exact G_zret hC hQ dX4_readItem_65 (by omega) ⟨_, rfl, hfin⟩
          · refine G_bipush hC dX4_readItem_54 (by decide) ?_
            refine G_goto (tgt := 61) hC dX4_readItem_56 (by decide) ?_
            refine G_icmp_eq (tgt := 66) hC dX4_readItem_61 (by decide) (by omega) (by omega) (fun c61 => ?_) (fun c61 => ?_)
            · exact absurd c61 (by first | (rw [if_pos (by omega)] at hbad; exact hbad) | (rw [if_neg (by omega)] at hbad; exact hbad))
            · refine G_iconst hC dX4_readItem_64 ?_
              exact G_zret hC hQ dX4_readItem_65 (by omega) ⟨_, rfl, hfin⟩
  have st1 : ∀ (k cnt q v q2 : Nat) (kv cv : Int) (c : Int) (M1 : Mem), kv = (k : Int) → cv = (cnt : Int) → k < cnt → cnt ≤ 3 → TxR M1 tx → M1 6 3 = (len : Int) → M1 6 4 = (q : Int) → q ≤ 900 → nsp tx len q (if k + 1 < cnt then 44 else 59) = some (v, q2) → G X Y 30 [vR 6, vI c, vI cv, vI (kv + 1)] [] (upM (upM M1 7 k v) 6 4 q2) P → G X Y 30 [vR 6, vI c, vI cv, vI kv] [] M1 P := by
    intro k cnt q v q2 kv cv c M1 e1 e2 hk hc hT1 hE1 hp1 hq hn hgo
    subst e1 e2
    cases hnm : numN tx len q with
    | none => unfold nsp at hn; rw [hnm] at hn; cases hn
    | some x =>
      obtain ⟨v', q1⟩ := x
      have hle := numN_le hnm
      have hnx : (q1 < len ∧ tx q1 = if k + 1 < cnt then 44 else 59) ∧ v' = v ∧ q1 + 1 = q2 := by
        unfold nsp at hn; rw [hnm] at hn
        simp only at hn
        by_cases z : q1 < len ∧ tx q1 = if k + 1 < cnt then 44 else 59
        · rw [if_pos z] at hn; cases hn; exact ⟨z, rfl, rfl⟩
        · rw [if_neg z] at hn; cases hn
      obtain ⟨⟨hq1, hq3⟩, rfl, rfl⟩ := hnx
      have hT2 : TxR (upM (upM M1 6 4 q1) 7 k v') tx := TxR_6 (TxR_6 hT1 (by omega)) (by omega)
      have hE2 : (upM (upM M1 6 4 q1) 7 k v') 6 3 = (len : Int) := by rw [upM_ne (by omega), upM_nej (by omega)]; exact hE1
      have hp2 : (upM (upM M1 6 4 q1) 7 k v') 6 4 = (q1 : Int) := by rw [upM_ne (by omega), upM_self]
      have hsr := sgZ_r (p := q1) hT2 hlen
      have hok : sgZ tx len q1 = if k + 1 < cnt then 44 else 59 := by
        unfold sgZ; rw [if_pos hq1, hq3]; split <;> rfl
      have hMe : upM (upM (upM M1 6 4 q1) 7 k v') 6 4 (q1 + 1) = upM (upM M1 7 k v') 6 4 ((q1 + 1 : Nat) : Int) := by
        funext a b
        unfold upM
        by_cases z1 : a = 6 ∧ b = 4
        · rw [if_pos z1, if_pos z1]; omega
        · rw [if_neg z1, if_neg z1, if_neg z1]
      refine G_il3 hC dX4_readItem_30 ?_
      refine G_il2 hC dX4_readItem_31 ?_
      refine G_icmp_ge (tgt := 72) hC dX4_readItem_32 (by decide) (by omega) (by omega) (fun c32 => ?_) (fun c32 => ?_)
      · exact absurd c32 (by omega)
      · refine G_al0 hC dX4_readItem_35 ?_
        refine G_il3 hC dX4_readItem_36 ?_
        refine G_callVI hC (c_X4_readNum1 hGr hT1 hE1 hlen hp1 (by omega) hnm (by omega)) mv_X4_45 (by first | assumption | rfl) (by omega) (by decide) rfl (by decide) dX4_readItem_37 rfl (Nat.le_of_ble_eq_true rfl) rfl (fun z37 M37 P37 h37 => ?_)
        obtain ⟨rfl, rfl, rfl⟩ := h37
        refine G_if_eq (tgt := 64) hC dX4_readItem_40 (by decide) (by omega) (fun c40 => ?_) (fun c40 => ?_)
        · exact absurd c40 (by omega)
        · refine G_al0 hC dX4_readItem_43 ?_
          refine G_callVI hC (c_X4_nextByte hGr hT2 hE2 hlen hp2 (by omega)) mv_X4_38 (by first | assumption | rfl) (by omega) (by decide) rfl (by decide) dX4_readItem_44 rfl (Nat.le_of_ble_eq_true rfl) rfl (fun z44 M44 P44 h44 => ?_)
          obtain ⟨rfl, rfl, rfl⟩ := h44
          refine G_il3 hC dX4_readItem_47 ?_
          refine G_il2 hC dX4_readItem_48 ?_
          refine G_iconst hC dX4_readItem_49 ?_
          refine G_isub hC dX4_readItem_50 ?_
          refine G_icmp_ge (tgt := 59) hC dX4_readItem_51 (by decide) (by omega) (by omega) (fun c51 => ?_) (fun c51 => ?_)
          · refine G_bipush hC dX4_readItem_59 (by decide) ?_
            refine G_icmp_eq (tgt := 66) hC dX4_readItem_61 (by decide) (by omega) (by omega) (fun c61 => ?_) (fun c61 => ?_)
            · refine G_inc3 hC dX4_readItem_66 rfl ?_
              refine G_goto (tgt := 30) hC dX4_readItem_69 (by decide) ?_
              rw [hMe]; exact hgo
            · exact absurd (by first | (rw [if_pos (by omega)] at hok; exact hok) | (rw [if_neg (by omega)] at hok; exact hok)) c61
          · refine G_bipush hC dX4_readItem_54 (by decide) ?_
            refine G_goto (tgt := 61) hC dX4_readItem_56 (by decide) ?_
            refine G_icmp_eq (tgt := 66) hC dX4_readItem_61 (by decide) (by omega) (by omega) (fun c61 => ?_) (fun c61 => ?_)
            · refine G_inc3 hC dX4_readItem_66 rfl ?_
              refine G_goto (tgt := 30) hC dX4_readItem_69 (by decide) ?_
              rw [hMe]; exact hgo
            · exact absurd (by first | (rw [if_pos (by omega)] at hok; exact hok) | (rw [if_neg (by omega)] at hok; exact hok)) c61
  have hcp : sgZ tx len p = (tx p : Int) := by unfold sgZ; rw [if_pos hpl]
  have htp := (hT p (by omega)).2
  have hT1 : TxR (upM M 6 4 (p + 1)) tx := TxR_6 hT (by omega)
  have hE1 : upM M 6 4 (p + 1) 6 3 = (len : Int) := by rw [upM_nej (by omega)]; exact hE
  have hp1 : upM M 6 4 (p + 1) 6 4 = ((p + 1 : Nat) : Int) := by rw [upM_self]; omega
  have hK1 : rdK M (upM M 6 4 (p + 1)) := rdK_64 ⟨eqx.refl, rfl, hB⟩
  have hS1 : ToR (upM M 6 4 (p + 1)) S := ToR_e (fun a ha b => upM_ne (by omega) b) hS
  have finG : ∀ (a b w0 q3 : Nat) (M3 : Mem), tx p = 103 → rdK M M3 → ToR M3 S → M3 7 0 = (a : Int) → M3 7 1 = (b : Int) → M3 7 2 = (w0 : Int) → M3 6 4 = (q3 : Int) → a ≤ 99 → b ≤ 99 → w0 ≤ 99 → p < q3 → q3 ≤ p + 20 → itm tx len p S = gEnd S a b w0 q3 → G X Y 30 [vR 6, vI (tx p), vI 3, vI 3] [] M3 P := by
    intro a b w0 q3 M3 h103 hK3 hS3 m0 m1 m2 m4 ha hb hw hq1 hq2 hi
    refine G_il3 hC dX4_readItem_30 ?_
    refine G_il2 hC dX4_readItem_31 ?_
    refine G_icmp_ge (tgt := 72) hC dX4_readItem_32 (by decide) (by omega) (by omega) (fun c32 => ?_) (fun c32 => ?_)
    · refine G_il1 hC dX4_readItem_72 ?_
      refine G_bipush hC dX4_readItem_73 (by decide) ?_
      refine G_icmp_ne (tgt := 107) hC dX4_readItem_75 (by decide) (by omega) (by omega) (fun c75 => ?_) (fun c75 => ?_)
      · exact absurd c75 (by omega)
      · refine G_al0 hC dX4_readItem_78 ?_
        refine G_al0 hC dX4_readItem_79 ?_
        refine G_getR hC fl_X4_9 (by first | assumption | rfl) (by omega) (by first | assumption | exact hGr _ _ _ rfl) dX4_readItem_80 ?_
        refine G_iconst hC dX4_readItem_83 ?_
        refine G_callSI hC (c_atN (z := 3) (i := 0) rfl (by omega) (by omega)) ms_X4_49 (by decide) rfl (by decide) dX4_readItem_84 rfl (Nat.le_of_ble_eq_true rfl) rfl (fun z84 M84 P84 h84 => ?_)
        obtain ⟨rfl, rfl, rfl⟩ := h84
        refine G_al0 hC dX4_readItem_87 ?_
        refine G_getR hC fl_X4_9 (by first | assumption | rfl) (by omega) (by first | assumption | exact hGr _ _ _ rfl) dX4_readItem_88 ?_
        refine G_iconst hC dX4_readItem_91 ?_
        refine G_callSI hC (c_atN (z := 3) (i := 1) rfl (by omega) (by omega)) ms_X4_49 (by decide) rfl (by decide) dX4_readItem_92 rfl (Nat.le_of_ble_eq_true rfl) rfl (fun z92 M92 P92 h92 => ?_)
        obtain ⟨rfl, rfl, rfl⟩ := h92
        refine G_al0 hC dX4_readItem_95 ?_
        refine G_getR hC fl_X4_9 (by first | assumption | rfl) (by omega) (by first | assumption | exact hGr _ _ _ rfl) dX4_readItem_96 ?_
        refine G_iconst hC dX4_readItem_99 ?_
        refine G_callSI hC (c_atN (z := 3) (i := 2) rfl (by omega) (by omega)) ms_X4_49 (by decide) rfl (by decide) dX4_readItem_100 rfl (Nat.le_of_ble_eq_true rfl) rfl (fun z100 M100 P100 h100 => ?_)
        obtain ⟨rfl, rfl, rfl⟩ := h100
        rw [m0, m1, m2]
        refine G_callVI hC (c_X4_takeGuest hGr hS3 ha hb hw) mv_X4_53 (by first | assumption | rfl) (by omega) (by decide) rfl (by decide) dX4_readItem_103 rfl (Nat.le_of_ble_eq_true rfl) rfl (fun z103 M103 P103 h103 => ?_)
        skip
        obtain ⟨rfl, hz⟩ := h103
        rcases hz with ⟨rfl, g1, rfl⟩ | ⟨rfl, g1, rfl⟩
        · exact G_zret hC hQ dX4_readItem_106 (by omega) ⟨_, rfl, rfl, hK3, Or.inl ⟨rfl, by rw [hi, gEnd_0 g1]⟩⟩
        · exact G_zret hC hQ dX4_readItem_106 (by omega) ⟨_, rfl, rfl, ⟨hK3.1.trans (fun x hx y => by
            rw [upM_ne (fun e => hx (by unfold sRd; omega)), upM_ne (fun e => hx (by unfold sRd; omega))]
            unfold agM
            unfold sRd at hx
            rw [if_neg (by omega), if_neg (by omega), if_neg (by omega)]), by
            rw [upM_ne (by omega), upM_ne (by omega)]
            unfold agM
            rw [if_neg (by omega), if_neg (by omega), if_neg (by omega)]
            exact hK3.2.1, ToB_add hS3 hK3.2.2 g1⟩, Or.inr ⟨rfl, q3, _, by rw [hi, gEnd_1 g1], ToR_add hS3 g1, by
            rw [upM_ne (by omega), upM_ne (by omega)]
            unfold agM
            rw [if_neg (by omega), if_neg (by omega), if_neg (by omega)]
            exact m4, hq1, hq2⟩⟩
    · exact absurd c32 (by omega)
  have finN : ∀ (v q3 : Nat) (M3 : Mem), tx p ≠ 119 → tx p ≠ 103 → rdK M M3 → ToR M3 S → M3 7 0 = (v : Int) → M3 6 4 = (q3 : Int) → v ≤ 99 → p < q3 → q3 ≤ p + 20 → itm tx len p S = nEnd S (tx p) v q3 → G X Y 30 [vR 6, vI (tx p), vI 1, vI 1] [] M3 P := by
    intro v q3 M3 h119 h103 hK3 hS3 m0 m4 hv hq1 hq2 hi
    have g0 : M3 2 0 = (qn S : Int) := hS3.1
    have g6 : qn S ≤ 6 := hS3.2.2.2.2.2.2.1
    unfold nEnd at hi
    by_cases e1 : tx p = 100
    · rw [if_pos e1] at hi
      refine G_il3 hC dX4_readItem_30 ?_
      refine G_il2 hC dX4_readItem_31 ?_
      refine G_icmp_ge (tgt := 72) hC dX4_readItem_32 (by decide) (by omega) (by omega) (fun c32 => ?_) (fun c32 => ?_)
      · refine G_il1 hC dX4_readItem_72 ?_
        refine G_bipush hC dX4_readItem_73 (by decide) ?_
        refine G_icmp_ne (tgt := 107) hC dX4_readItem_75 (by decide) (by omega) (by omega) (fun c75 => ?_) (fun c75 => ?_)
        · refine G_al0 hC dX4_readItem_107 ?_
          refine G_il1 hC dX4_readItem_108 ?_
          refine G_al0 hC dX4_readItem_109 ?_
          refine G_getR hC fl_X4_9 (by first | assumption | rfl) (by omega) (by first | assumption | exact hGr _ _ _ rfl) dX4_readItem_110 ?_
          refine G_iconst hC dX4_readItem_113 ?_
          refine G_callSI hC (c_atN (z := 3) (i := 0) rfl (by omega) (by omega)) ms_X4_49 (by decide) rfl (by decide) dX4_readItem_114 rfl (Nat.le_of_ble_eq_true rfl) rfl (fun z114 M114 P114 h114 => ?_)
          obtain ⟨rfl, rfl, rfl⟩ := h114
          rw [m0]
          refine G_callVI hC (c_tkD hGr (by omega) (by omega) hv (by omega)) mv_X4_57 (by first | assumption | rfl) (by omega) (by decide) rfl (by decide) dX4_readItem_117 rfl (Nat.le_of_ble_eq_true rfl) rfl (fun z117 M117 P117 h117 => ?_)
          obtain ⟨rfl, rfl, rfl⟩ := h117
          refine G_zret hC hQ dX4_readItem_120 (by split <;> omega) ⟨_, rfl, rfl, rdK_2 hK3, ?_⟩
          by_cases z : 1 ≤ v ∧ v ≤ 6 ∧ qn S = 0
          · rw [if_pos ⟨z.1, z.2.1, by omega⟩]
            rw [if_pos z] at hi
            exact Or.inr ⟨rfl, q3, _, hi, ToR_2 hS3 (Or.inl ⟨rfl, z.1, z.2.1, z.2.2, rfl⟩), by rw [upM_ne (by omega)]; exact m4, hq1, hq2⟩
          · rw [if_neg (fun q => z ⟨q.1, q.2.1, by omega⟩)]
            rw [if_neg z] at hi
            exact Or.inl ⟨rfl, hi⟩
        · exact absurd c75 (by omega)
      · exact absurd c32 (by omega)
    · rw [if_neg e1] at hi
      by_cases e2 : tx p = 114
      · rw [if_pos e2] at hi
        refine G_il3 hC dX4_readItem_30 ?_
        refine G_il2 hC dX4_readItem_31 ?_
        refine G_icmp_ge (tgt := 72) hC dX4_readItem_32 (by decide) (by omega) (by omega) (fun c32 => ?_) (fun c32 => ?_)
        · refine G_il1 hC dX4_readItem_72 ?_
          refine G_bipush hC dX4_readItem_73 (by decide) ?_
          refine G_icmp_ne (tgt := 107) hC dX4_readItem_75 (by decide) (by omega) (by omega) (fun c75 => ?_) (fun c75 => ?_)
          · refine G_al0 hC dX4_readItem_107 ?_
            refine G_il1 hC dX4_readItem_108 ?_
            refine G_al0 hC dX4_readItem_109 ?_
            refine G_getR hC fl_X4_9 (by first | assumption | rfl) (by omega) (by first | assumption | exact hGr _ _ _ rfl) dX4_readItem_110 ?_
            refine G_iconst hC dX4_readItem_113 ?_
            refine G_callSI hC (c_atN (z := 3) (i := 0) rfl (by omega) (by omega)) ms_X4_49 (by decide) rfl (by decide) dX4_readItem_114 rfl (Nat.le_of_ble_eq_true rfl) rfl (fun z114 M114 P114 h114 => ?_)
            obtain ⟨rfl, rfl, rfl⟩ := h114
            rw [m0]
            refine G_callVI hC (c_tkR hGr (by omega) hv (by omega)) mv_X4_57 (by first | assumption | rfl) (by omega) (by decide) rfl (by decide) dX4_readItem_117 rfl (Nat.le_of_ble_eq_true rfl) rfl (fun z117 M117 P117 h117 => ?_)
            obtain ⟨rfl, rfl, rfl⟩ := h117
            refine G_zret hC hQ dX4_readItem_120 (by split <;> omega) ⟨_, rfl, rfl, rdK_2 hK3, ?_⟩
            by_cases z : v ≤ 1
            · rw [if_pos z]
              rw [if_pos z] at hi
              exact Or.inr ⟨rfl, q3, _, hi, ToR_2 hS3 (Or.inr (Or.inl ⟨rfl, z, rfl⟩)), by rw [upM_ne (by omega)]; exact m4, hq1, hq2⟩
            · rw [if_neg z]
              rw [if_neg z] at hi
              exact Or.inl ⟨rfl, hi⟩
          · exact absurd c75 (by omega)
        · exact absurd c32 (by omega)
      · rw [if_neg e2] at hi
        by_cases e3 : tx p = 115
        · rw [if_pos e3] at hi
          refine G_il3 hC dX4_readItem_30 ?_
          refine G_il2 hC dX4_readItem_31 ?_
          refine G_icmp_ge (tgt := 72) hC dX4_readItem_32 (by decide) (by omega) (by omega) (fun c32 => ?_) (fun c32 => ?_)
          · refine G_il1 hC dX4_readItem_72 ?_
            refine G_bipush hC dX4_readItem_73 (by decide) ?_
            refine G_icmp_ne (tgt := 107) hC dX4_readItem_75 (by decide) (by omega) (by omega) (fun c75 => ?_) (fun c75 => ?_)
            · refine G_al0 hC dX4_readItem_107 ?_
              refine G_il1 hC dX4_readItem_108 ?_
              refine G_al0 hC dX4_readItem_109 ?_
              refine G_getR hC fl_X4_9 (by first | assumption | rfl) (by omega) (by first | assumption | exact hGr _ _ _ rfl) dX4_readItem_110 ?_
              refine G_iconst hC dX4_readItem_113 ?_
              refine G_callSI hC (c_atN (z := 3) (i := 0) rfl (by omega) (by omega)) ms_X4_49 (by decide) rfl (by decide) dX4_readItem_114 rfl (Nat.le_of_ble_eq_true rfl) rfl (fun z114 M114 P114 h114 => ?_)
              obtain ⟨rfl, rfl, rfl⟩ := h114
              rw [m0]
              refine G_callVI hC (c_tkS hGr (by omega) hv (by omega)) mv_X4_57 (by first | assumption | rfl) (by omega) (by decide) rfl (by decide) dX4_readItem_117 rfl (Nat.le_of_ble_eq_true rfl) rfl (fun z117 M117 P117 h117 => ?_)
              obtain ⟨rfl, rfl, rfl⟩ := h117
              exact G_zret hC hQ dX4_readItem_120 (by omega) ⟨_, rfl, rfl, rdK_2 hK3, Or.inr ⟨rfl, q3, _, hi, ToR_2 hS3 (Or.inr (Or.inr (Or.inl ⟨rfl, hv, rfl⟩))), by rw [upM_ne (by omega)]; exact m4, hq1, hq2⟩⟩
            · exact absurd c75 (by omega)
          · exact absurd c32 (by omega)
        · rw [if_neg e3] at hi
          by_cases e4 : tx p = 99
          · rw [if_pos e4] at hi
            refine G_il3 hC dX4_readItem_30 ?_
            refine G_il2 hC dX4_readItem_31 ?_
            refine G_icmp_ge (tgt := 72) hC dX4_readItem_32 (by decide) (by omega) (by omega) (fun c32 => ?_) (fun c32 => ?_)
            · refine G_il1 hC dX4_readItem_72 ?_
              refine G_bipush hC dX4_readItem_73 (by decide) ?_
              refine G_icmp_ne (tgt := 107) hC dX4_readItem_75 (by decide) (by omega) (by omega) (fun c75 => ?_) (fun c75 => ?_)
              · refine G_al0 hC dX4_readItem_107 ?_
                refine G_il1 hC dX4_readItem_108 ?_
                refine G_al0 hC dX4_readItem_109 ?_
                refine G_getR hC fl_X4_9 (by first | assumption | rfl) (by omega) (by first | assumption | exact hGr _ _ _ rfl) dX4_readItem_110 ?_
                refine G_iconst hC dX4_readItem_113 ?_
                refine G_callSI hC (c_atN (z := 3) (i := 0) rfl (by omega) (by omega)) ms_X4_49 (by decide) rfl (by decide) dX4_readItem_114 rfl (Nat.le_of_ble_eq_true rfl) rfl (fun z114 M114 P114 h114 => ?_)
                obtain ⟨rfl, rfl, rfl⟩ := h114
                rw [m0]
                refine G_callVI hC (c_tkC hGr (by omega) hv (by omega)) mv_X4_57 (by first | assumption | rfl) (by omega) (by decide) rfl (by decide) dX4_readItem_117 rfl (Nat.le_of_ble_eq_true rfl) rfl (fun z117 M117 P117 h117 => ?_)
                obtain ⟨rfl, rfl, rfl⟩ := h117
                refine G_zret hC hQ dX4_readItem_120 (by split <;> omega) ⟨_, rfl, rfl, rdK_2 hK3, ?_⟩
                by_cases z : v ≤ 9
                · rw [if_pos z]
                  rw [if_pos z] at hi
                  exact Or.inr ⟨rfl, q3, _, hi, ToR_2 hS3 (Or.inr (Or.inr (Or.inr ⟨rfl, z, rfl⟩))), by rw [upM_ne (by omega)]; exact m4, hq1, hq2⟩
                · rw [if_neg z]
                  rw [if_neg z] at hi
                  exact Or.inl ⟨rfl, hi⟩
              · exact absurd c75 (by omega)
            · exact absurd c32 (by omega)
          · rw [if_neg e4] at hi
            refine G_il3 hC dX4_readItem_30 ?_
            refine G_il2 hC dX4_readItem_31 ?_
            refine G_icmp_ge (tgt := 72) hC dX4_readItem_32 (by decide) (by omega) (by omega) (fun c32 => ?_) (fun c32 => ?_)
            · refine G_il1 hC dX4_readItem_72 ?_
              refine G_bipush hC dX4_readItem_73 (by decide) ?_
              refine G_icmp_ne (tgt := 107) hC dX4_readItem_75 (by decide) (by omega) (by omega) (fun c75 => ?_) (fun c75 => ?_)
              · refine G_al0 hC dX4_readItem_107 ?_
                refine G_il1 hC dX4_readItem_108 ?_
                refine G_al0 hC dX4_readItem_109 ?_
                refine G_getR hC fl_X4_9 (by first | assumption | rfl) (by omega) (by first | assumption | exact hGr _ _ _ rfl) dX4_readItem_110 ?_
                refine G_iconst hC dX4_readItem_113 ?_
                refine G_callSI hC (c_atN (z := 3) (i := 0) rfl (by omega) (by omega)) ms_X4_49 (by decide) rfl (by decide) dX4_readItem_114 rfl (Nat.le_of_ble_eq_true rfl) rfl (fun z114 M114 P114 h114 => ?_)
                obtain ⟨rfl, rfl, rfl⟩ := h114
                rw [m0]
                refine G_callVI hC (c_tkO hGr (by omega) hv (by omega)) mv_X4_57 (by first | assumption | rfl) (by omega) (by decide) rfl (by decide) dX4_readItem_117 rfl (Nat.le_of_ble_eq_true rfl) rfl (fun z117 M117 P117 h117 => ?_)
                obtain ⟨rfl, rfl, rfl⟩ := h117
                exact G_zret hC hQ dX4_readItem_120 (by omega) ⟨_, rfl, rfl, hK3, Or.inl ⟨rfl, hi⟩⟩
              · exact absurd c75 (by omega)
            · exact absurd c32 (by omega)
  refine G_al0 hC dX4_readItem_0 ?_
  refine G_callVI hC (c_X4_nextByte hGr hT hE hlen hp (by omega)) mv_X4_38 (by first | assumption | rfl) (by omega) (by decide) rfl (by decide) dX4_readItem_1 rfl (Nat.le_of_ble_eq_true rfl) rfl (fun z1 M1 P1 h1 => ?_)
  obtain ⟨rfl, rfl, rfl⟩ := h1
  rw [hcp]
  refine G_is1 hC dX4_readItem_4 rfl ?_
  refine G_il1 hC dX4_readItem_5 ?_
  refine G_bipush hC dX4_readItem_6 (by decide) ?_
  refine G_icmp_ne (tgt := 16) hC dX4_readItem_8 (by decide) (by omega) (by omega) (fun c8 => ?_) (fun c8 => ?_)
  · refine G_il1 hC dX4_readItem_16 ?_
    refine G_bipush hC dX4_readItem_17 (by decide) ?_
    refine G_icmp_ne (tgt := 26) hC dX4_readItem_19 (by decide) (by omega) (by omega) (fun c19 => ?_) (fun c19 => ?_)
    · refine G_iconst hC dX4_readItem_26 ?_
      refine G_is2 hC dX4_readItem_27 rfl ?_
      refine G_iconst hC dX4_readItem_28 ?_
      refine G_is3 hC dX4_readItem_29 rfl ?_
      have hi0 := itm_N (len := len) (S := S) (show tx p ≠ 119 by omega) (show tx p ≠ 103 by omega)
      unfold itmN at hi0
      cases n1 : nsp tx len (p + 1) 59 with
      | none =>
        rw [n1] at hi0
        exact st0 0 1 (p + 1) _ _ _ _ rfl rfl (by omega) (by omega) hT1 hE1 hp1 (by omega) n1 (fun M2 q1 q2 => ⟨rfl, rdK_67 hK1 q1 q2, Or.inl ⟨rfl, hi0⟩⟩)
      | some x1 =>
        obtain ⟨a, q1⟩ := x1
        have l1 := nsp_le n1
        rw [n1] at hi0
        refine st1 0 1 (p + 1) a q1 _ _ _ _ rfl rfl (by omega) (by omega) hT1 hE1 hp1 (by omega) n1 ?_
        have hx2 : eqx (fun a => a = 6 ∨ a = 7) (upM M 6 4 (p + 1)) (upM (upM (upM M 6 4 (p + 1)) 7 0 a) 6 4 q1) := fun x hx y => by rw [upM_ne (by omega), upM_ne (by omega)]
        exact finN a q1 _ (by omega) (by omega) (rdK_67 hK1 hx2 (by rw [upM_nej (by omega), upM_ne (by omega)])) (ToR_e (fun x hx y => hx2 x (by omega) y) hS1) (by rw [upM_ne (by omega), upM_self]) (upM_self _ _ _ _) l1.1 (by omega) (by omega) hi0
    · refine G_iconst hC dX4_readItem_22 ?_
      refine G_goto (tgt := 27) hC dX4_readItem_23 (by decide) ?_
      refine G_is2 hC dX4_readItem_27 rfl ?_
      refine G_iconst hC dX4_readItem_28 ?_
      refine G_is3 hC dX4_readItem_29 rfl ?_
      have hi0 := itm_G (len := len) (S := S) (show tx p = 103 by omega)
      unfold itmG at hi0
      cases n1 : nsp tx len (p + 1) 44 with
      | none =>
        rw [n1] at hi0
        exact st0 0 3 (p + 1) _ _ _ _ rfl rfl (by omega) (by omega) hT1 hE1 hp1 (by omega) n1 (fun M2 q1 q2 => ⟨rfl, rdK_67 hK1 q1 q2, Or.inl ⟨rfl, hi0⟩⟩)
      | some x1 =>
        obtain ⟨a, q1⟩ := x1
        have l1 := nsp_le n1
        rw [n1] at hi0
        refine st1 0 3 (p + 1) a q1 _ _ _ _ rfl rfl (by omega) (by omega) hT1 hE1 hp1 (by omega) n1 ?_
        have hT2 : TxR (upM (upM (upM M 6 4 (p + 1)) 7 0 a) 6 4 q1) tx := TxR_6 (TxR_6 hT1 (by omega)) (by omega)
        have hE2 : upM (upM (upM M 6 4 (p + 1)) 7 0 a) 6 4 q1 6 3 = (len : Int) := by rw [upM_nej (by omega), upM_ne (by omega)]; exact hE1
        have hx2 : eqx (fun a => a = 6 ∨ a = 7) (upM M 6 4 (p + 1)) (upM (upM (upM M 6 4 (p + 1)) 7 0 a) 6 4 q1) := fun x hx y => by rw [upM_ne (by omega), upM_ne (by omega)]
        have hv0 : upM (upM (upM M 6 4 (p + 1)) 7 0 a) 6 4 q1 7 0 = (a : Int) := by rw [upM_ne (by omega), upM_self]
        have hp2 : upM (upM (upM M 6 4 (p + 1)) 7 0 a) 6 4 q1 6 4 = (q1 : Int) := upM_self _ _ _ _
        generalize upM (upM (upM M 6 4 (p + 1)) 7 0 a) 6 4 q1 = Ma at hT2 hE2 hx2 hv0 hp2 ⊢
        simp only at hi0
        cases n2 : nsp tx len q1 44 with
        | none =>
          rw [n2] at hi0
          exact st0 1 3 q1 _ _ _ _ rfl rfl (by omega) (by omega) hT2 hE2 hp2 (by omega) n2 (fun M2 z1 z2 => ⟨rfl, rdK_67 hK1 (hx2.trans z1) (z2.trans (hE2.trans hE1.symm)), Or.inl ⟨rfl, hi0⟩⟩)
        | some x2 =>
          obtain ⟨b, q2⟩ := x2
          have l2 := nsp_le n2
          rw [n2] at hi0
          refine st1 1 3 q1 b q2 _ _ _ _ rfl rfl (by omega) (by omega) hT2 hE2 hp2 (by omega) n2 ?_
          have hT3 : TxR (upM (upM Ma 7 1 b) 6 4 q2) tx := TxR_6 (TxR_6 hT2 (by omega)) (by omega)
          have hE3 : upM (upM Ma 7 1 b) 6 4 q2 6 3 = (len : Int) := by rw [upM_nej (by omega), upM_ne (by omega)]; exact hE2
          have hx3 : eqx (fun a => a = 6 ∨ a = 7) (upM M 6 4 (p + 1)) (upM (upM Ma 7 1 b) 6 4 q2) := hx2.trans (fun x hx y => by rw [upM_ne (by omega), upM_ne (by omega)])
          have hv03 : upM (upM Ma 7 1 b) 6 4 q2 7 0 = (a : Int) := by rw [upM_ne (by omega), upM_nej (by omega)]; exact hv0
          have hv13 : upM (upM Ma 7 1 b) 6 4 q2 7 1 = (b : Int) := by rw [upM_ne (by omega), upM_self]
          have hp3 : upM (upM Ma 7 1 b) 6 4 q2 6 4 = (q2 : Int) := upM_self _ _ _ _
          generalize upM (upM Ma 7 1 b) 6 4 q2 = Mb at hT3 hE3 hx3 hv03 hv13 hp3 ⊢
          simp only at hi0
          cases n3 : nsp tx len q2 59 with
          | none =>
            rw [n3] at hi0
            exact st0 2 3 q2 _ _ _ _ rfl rfl (by omega) (by omega) hT3 hE3 hp3 (by omega) n3 (fun M2 z1 z2 => ⟨rfl, rdK_67 hK1 (hx3.trans z1) (z2.trans (hE3.trans hE1.symm)), Or.inl ⟨rfl, hi0⟩⟩)
          | some x3 =>
            obtain ⟨w0, q3⟩ := x3
            have l3 := nsp_le n3
            rw [n3] at hi0
            refine st1 2 3 q2 w0 q3 _ _ _ _ rfl rfl (by omega) (by omega) hT3 hE3 hp3 (by omega) n3 ?_
            have hx4 : eqx (fun a => a = 6 ∨ a = 7) (upM M 6 4 (p + 1)) (upM (upM Mb 7 2 w0) 6 4 q3) := hx3.trans (fun x hx y => by rw [upM_ne (by omega), upM_ne (by omega)])
            exact finG a b w0 q3 _ (by omega) (rdK_67 hK1 hx4 (by rw [upM_nej (by omega), upM_ne (by omega)]; exact hE3.trans hE1.symm)) (ToR_e (fun x hx y => hx4 x (by omega) y) hS1) (by rw [upM_ne (by omega), upM_nej (by omega)]; exact hv03) (by rw [upM_ne (by omega), upM_nej (by omega)]; exact hv13) (by rw [upM_ne (by omega), upM_self]) (upM_self _ _ _ _) l1.1 l2.1 l3.1 (by omega) (by omega) hi0
  · refine G_al0 hC dX4_readItem_11 ?_
    refine G_callVI hC (c_X4_readWorths (p := p + 1) hGr hT1 hE1 hlen hp1 (by omega) hS1 hK1.2.2) mv_X4_42 (by first | assumption | rfl) (by omega) (by decide) rfl (by decide) dX4_readItem_12 rfl (Nat.le_of_ble_eq_true rfl) rfl (fun z12 M12 P12 h12 => ?_)
    obtain ⟨rfl, k1, hz⟩ := h12
    have hiW := itm_W (len := len) (S := S) (show tx p = 119 by omega)
    have hK2 : rdK M M12 := ⟨hK1.1.trans k1.1, k1.2.1.trans hK1.2.1, k1.2.2⟩
    have hz01 : z12 = 0 ∨ z12 = 1 := by rcases hz with ⟨e, -⟩ | ⟨e, -⟩ <;> omega
    exact G_zret hC hQ dX4_readItem_15 (by omega) ⟨_, rfl, rfl, hK2, by
  rcases hz with ⟨e, y⟩ | ⟨e, p', S', y1, y2, y3, y4, y5⟩
  · exact Or.inl ⟨e, by rw [hiW]; exact y⟩
  · exact Or.inr ⟨e, p', S', by rw [hiW]; exact y1, y2, y3, by omega, by omega⟩⟩
def rdQ (M : Mem) (P : PMem) (tx : Nat → Nat) (len : Nat) : Int → Mem → PMem → Prop := fun r M' P' => P = P' ∧ eqx sRd M M' ∧ ToB M' ∧ ((∃ p, prsF tx len 301 0 ts0 = .inl p ∧ r = (p : Int) ∧ p ≤ 300) ∨ (∃ S, prsF tx len 301 0 ts0 = .inr S ∧ r = -4 ∧ ToR M' S))
theorem ToR_0 {M : Mem} : ToR (clM M 2) ts0 := by
  unfold clM ToR ts0
  refine ⟨by simp [upM], by simp [upM], by simp [upM], by simp [upM], by simp [upM], by simp [upM]; decide, by decide, by decide, by decide, by decide, by decide, by decide, fun i => Or.inr rfl, fun i _ => rfl, fun i h => absurd rfl h, fun i j h => absurd rfl h, fun g hg => ?_⟩
  have : g < 0 := hg
  omega
set_option maxHeartbeats 4000000 in
set_option maxRecDepth 100000 in
theorem c_X4_read {l : Launch} {tx : Nat → Nat} {len : Nat} {M : Mem} {P : PMem} (hGr : Gr P) (hT : TxR M tx) (hlen : len ≤ 300) (hB : ToB M) : CtI l yX4_read cX4_read 4 (some .int) 5 117 45 [vR 6, vI len] M P (rdQ M P tx len) := by
  refine Ct_of (own := RX4) (L := [vR 6, vI len, vX 1, vX 1]) (by decide) rfl rfl (Nat.le_of_ble_eq_true rfl) (fun X Y hl hC hQ => ?_)
  have hlp : ∀ (c k p : Nat) (S : TS) (kv : Int) (M1 : Mem) (x3 : AV), k + c = 300 → kv = (k : Int) → k ≤ p → p ≤ 700 → eqx sRd M M1 → ToB M1 → ToR M1 S → M1 6 3 = (len : Int) → M1 6 4 = (p : Int) → prsF tx len (c + 1) p S = prsF tx len 301 0 ts0 → G X Y 19 [vR 6, vI len, vI kv, x3] [] M1 P := by
    intro c
    induction c with
    | zero =>
      intro k p S kv M1 x3 hk e1 hkp hp7 hx hB1 hS1 hE1 hp1 hpr
      subst e1
      have : prsF tx len (0 + 1) p S = .inr S := by unfold prsF; rw [if_neg (by omega)]
      refine G_il2 hC dX4_read_19 ?_
      refine G_sipush hC dX4_read_20 (by decide) ?_
      refine G_icmp_ge (tgt := 57) hC dX4_read_23 (by decide) (by omega) (by omega) (fun c23 => ?_) (fun c23 => ?_)
      · refine G_bipush hC dX4_read_57 (by decide) ?_
        exact G_iret hC hQ dX4_read_59 ⟨_, rfl, rfl, hx, hB1, Or.inr ⟨S, hpr.symm.trans this, rfl, hS1⟩⟩
      · exact absurd c23 (by omega)
    | succ c ih =>
      intro k p S kv M1 x3 hk e1 hkp hp7 hx hB1 hS1 hE1 hp1 hpr
      subst e1
      unfold prsF at hpr
      by_cases hpl : p < len
      · rw [if_pos hpl] at hpr
        refine G_il2 hC dX4_read_19 ?_
        refine G_sipush hC dX4_read_20 (by decide) ?_
        refine G_icmp_ge (tgt := 57) hC dX4_read_23 (by decide) (by omega) (by omega) (fun c23 => ?_) (fun c23 => ?_)
        · exact absurd c23 (by omega)
        · refine G_al0 hC dX4_read_26 ?_
          refine G_getI hC fl_X4_31 (by first | assumption | rfl) (by omega) dX4_read_27 ?_
          refine G_al0 hC dX4_read_30 ?_
          refine G_getI hC fl_X4_27 (by first | assumption | rfl) (by omega) dX4_read_31 ?_
          rw [hE1, hp1]
          refine G_icmp_ge (tgt := 57) hC dX4_read_34 (by decide) (by omega) (by omega) (fun c34 => ?_) (fun c34 => ?_)
          · exact absurd c34 (by omega)
          · refine G_al0 hC dX4_read_37 ?_
            refine G_getI hC fl_X4_31 (by first | assumption | rfl) (by omega) dX4_read_38 ?_
            rw [hp1]
            refine G_is3 hC dX4_read_41 rfl ?_
            refine G_al0 hC dX4_read_42 ?_
            refine G_callVI hC (c_X4_readItem hGr (TxR_x hx hT) hE1 hlen hp1 (by omega) hS1 hB1 hpl) mv_X4_34 (by first | assumption | rfl) (by omega) (by decide) rfl (by decide) dX4_read_43 rfl (Nat.le_of_ble_eq_true rfl) rfl (fun z43 M43 P43 h43 => ?_)
            skip
            obtain ⟨rfl, hK, hz⟩ := h43
            rcases hz with ⟨rfl, hz⟩ | ⟨rfl, p', S', hz, hS2, hp2, l1, l2⟩
            · rw [hz] at hpr
              refine G_if_ne (tgt := 51) hC dX4_read_46 (by decide) (by omega) (fun c46 => ?_) (fun c46 => ?_)
              · exact absurd rfl c46
              · refine G_il3 hC dX4_read_49 ?_
                exact G_iret hC hQ dX4_read_50 ⟨_, rfl, rfl, hx.trans hK.1, hK.2.2, Or.inl ⟨p, hpr.symm, rfl, by omega⟩⟩
            · rw [hz] at hpr
              refine G_if_ne (tgt := 51) hC dX4_read_46 (by decide) (by omega) (fun c46 => ?_) (fun c46 => ?_)
              · refine G_inc2 hC dX4_read_51 rfl ?_
                refine G_goto (tgt := 19) hC dX4_read_54 (by decide) ?_
                exact ih (k + 1) p' S' _ M43 _ (by omega) (by omega) (by omega) (by omega) (hx.trans hK.1) hK.2.2 hS2 (hK.2.1.trans hE1) hp2 hpr
              · exact absurd c46 (by omega)
      · rw [if_neg hpl] at hpr
        refine G_il2 hC dX4_read_19 ?_
        refine G_sipush hC dX4_read_20 (by decide) ?_
        refine G_icmp_ge (tgt := 57) hC dX4_read_23 (by decide) (by omega) (by omega) (fun c23 => ?_) (fun c23 => ?_)
        · exact absurd c23 (by omega)
        · refine G_al0 hC dX4_read_26 ?_
          refine G_getI hC fl_X4_31 (by first | assumption | rfl) (by omega) dX4_read_27 ?_
          refine G_al0 hC dX4_read_30 ?_
          refine G_getI hC fl_X4_27 (by first | assumption | rfl) (by omega) dX4_read_31 ?_
          rw [hE1, hp1]
          refine G_icmp_ge (tgt := 57) hC dX4_read_34 (by decide) (by omega) (by omega) (fun c34 => ?_) (fun c34 => ?_)
          · refine G_bipush hC dX4_read_57 (by decide) ?_
            exact G_iret hC hQ dX4_read_59 ⟨_, rfl, rfl, hx, hB1, Or.inr ⟨S, hpr.symm, rfl, hS1⟩⟩
          · exact absurd c34 (by omega)
  refine G_al0 hC dX4_read_0 ?_
  refine G_getR hC fl_X4_18 (by first | assumption | rfl) (by omega) (by first | assumption | exact hGr _ _ _ rfl) dX4_read_1 ?_
  refine G_callVV hC (c_X7_clear hGr isT2) mv_X4_22 (by first | assumption | rfl) (by omega) (by decide) rfl (by decide) dX4_read_4 rfl (Nat.le_of_ble_eq_true rfl) rfl (fun M4 P4 h4 => ?_)
  obtain ⟨rfl, rfl⟩ := h4
  refine G_al0 hC dX4_read_7 ?_
  refine G_il1 hC dX4_read_8 ?_
  refine G_putI hC fl_X4_27 (by first | assumption | rfl) (by omega) dX4_read_9 ?_
  refine G_al0 hC dX4_read_12 ?_
  refine G_iconst hC dX4_read_13 ?_
  refine G_putI hC fl_X4_31 (by first | assumption | rfl) (by omega) dX4_read_14 ?_
  refine G_iconst hC dX4_read_17 ?_
  refine G_is2 hC dX4_read_18 rfl ?_
  exact hlp 300 0 0 ts0 _ _ _ (by omega) rfl (by omega) (by omega) (fun a ha b => by
    have h2 : a ≠ 2 := fun e => ha (by unfold sRd; omega)
    have h6 : a ≠ 6 := fun e => ha (by unfold sRd; omega)
    unfold clM
    rw [upM_ne h6, upM_ne h6, upM_ne h2, upM_ne h2, upM_ne h2, upM_ne h2, upM_ne h2, upM_ne h2]) (ToB_e (fun a ha b => by unfold clM; rw [upM_ne (by omega), upM_ne (by omega), upM_ne (by omega), upM_ne (by omega), upM_ne (by omega), upM_ne (by omega), upM_ne (by omega), upM_ne (by omega)]) hB) (ToR_e (fun a ha b => by rw [upM_ne (by omega), upM_ne (by omega)]) ToR_0) (by rw [upM_nej (by omega), upM_self]) (by rw [upM_self]; rfl) rfl
