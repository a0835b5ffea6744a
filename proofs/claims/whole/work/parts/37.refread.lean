/-! the reference reads -/
def qWF (Q : TS) : Prop := ∃ M, ToR M Q
def MsR (M : Mem) (Q : TS) : Prop := (M 45 23 = (qn Q : Int) ∧ M 45 24 = (qd Q : Int) ∧ M 45 25 = (qr Q : Int) ∧ M 45 26 = (qs Q : Int) ∧ M 45 27 = (qc Q : Int)) ∧ qWF Q ∧ ∀ g, g < qn Q → M 59 g = (qk Q g : Int) ∧ M 60 g = (qw Q g : Int) ∧ M 62 g = nv (qf Q g) ∧ ∀ d, d < 6 → M 61 (6 * g + d) = (qv Q g d : Int)
def sMs : Nat → Prop := fun a => a = 45 ∨ (59 ≤ a ∧ a ≤ 62)
def mK (M M' : Mem) : Prop := eqx sMs M M' ∧ ∀ b, b < 22 ∨ 27 < b → M' 45 b = M 45 b
theorem mK.refl {M : Mem} : mK M M := ⟨eqx.refl, fun _ _ => rfl⟩
theorem mK.trans {M M' M'' : Mem} (h : mK M M') (h' : mK M' M'') : mK M M'' := ⟨h.1.trans h'.1, fun b hb => (h'.2 b hb).trans (h.2 b hb)⟩
theorem mK_22 {M M' : Mem} {v : Int} (h : mK M M') : mK M (upM M' 45 22 v) := ⟨h.1.trans (eqx_up (Or.inl rfl)), fun b hb => by rw [upM_nej (by omega)]; exact h.2 b hb⟩
theorem MsR_22 {M : Mem} {Q : TS} {v : Int} (h : MsR M Q) : MsR (upM M 45 22 v) Q := by
  obtain ⟨⟨h1, h2, h3, h4, h5⟩, h6, h7⟩ := h
  exact ⟨⟨by rw [upM_nej (by omega)]; exact h1, by rw [upM_nej (by omega)]; exact h2, by rw [upM_nej (by omega)]; exact h3, by rw [upM_nej (by omega)]; exact h4, by rw [upM_nej (by omega)]; exact h5⟩, h6, fun g hg => by
    rw [upM_ne (by omega), upM_ne (by omega), upM_ne (by omega)]
    exact ⟨(h7 g hg).1, (h7 g hg).2.1, (h7 g hg).2.2.1, fun d hd => by rw [upM_ne (by omega)]; exact (h7 g hg).2.2.2 d hd⟩⟩
noncomputable def gC (tx : Nat → Nat) (len : Nat) (S : TS) (k d q : Nat) : Option (Nat × TS) := match nsp tx len q 59 with
  | none => none
  | some (w, p3) => gEnd S k d w p3
noncomputable def gB (tx : Nat → Nat) (len : Nat) (S : TS) (k q : Nat) : Option (Nat × TS) := match nsp tx len q 44 with
  | none => none
  | some (d, p2) => gC tx len S k d p2
theorem itmG_B {tx : Nat → Nat} {len p : Nat} {S : TS} : itmG tx len p S = match nsp tx len p 44 with
  | none => none
  | some (k, p1) => gB tx len S k p1 := rfl
theorem gC_bad {tx : Nat → Nat} {len k d q : Nat} {S : TS} (h : ∀ w, ¬ gOK S k d w) : gC tx len S k d q = none := by
  unfold gC
  cases nsp tx len q 59 with
  | none => rfl
  | some x => exact gEnd_0 (h x.1)
theorem gB_bad {tx : Nat → Nat} {len k q : Nat} {S : TS} (h : ∀ d w, ¬ gOK S k d w) : gB tx len S k q = none := by
  unfold gB
  cases nsp tx len q 44 with
  | none => rfl
  | some x => exact gC_bad (h x.1)
theorem nsp_0 {tx : Nat → Nat} {len q sep : Nat} (h : numN tx len q = none) : nsp tx len q sep = none := by unfold nsp; rw [h]
theorem nsp_1 {tx : Nat → Nat} {len q sep v q1 : Nat} (h : numN tx len q = some (v, q1)) (h2 : q1 < len ∧ tx q1 = sep) : nsp tx len q sep = some (v, q1 + 1) := by unfold nsp; rw [h]; simp only; rw [if_pos h2]
theorem nsp_2 {tx : Nat → Nat} {len q sep v q1 : Nat} (h : numN tx len q = some (v, q1)) (h2 : ¬ (q1 < len ∧ tx q1 = sep)) : nsp tx len q sep = none := by unfold nsp; rw [h]; simp only; rw [if_neg h2]
def frI (f : Nat → Nat) (d : Nat) : Nat → Int
  | 0 => 1
  | k + 1 => if frI f d k = 1 ∧ f k ≠ d then 1 else 0
theorem frI_1 {f : Nat → Nat} {d : Nat} : ∀ k, (frI f d k = 1 ↔ ∀ j, j < k → f j ≠ d) ∧ (frI f d k = 0 ∨ frI f d k = 1)
  | 0 => ⟨⟨fun _ j hj => by omega, fun _ => rfl⟩, Or.inr rfl⟩
  | k + 1 => by
    have ih := frI_1 (f := f) (d := d) k
    unfold frI
    by_cases z : frI f d k = 1 ∧ f k ≠ d
    · rw [if_pos z]
      refine ⟨⟨fun _ j hj => ?_, fun _ => rfl⟩, Or.inr rfl⟩
      rcases Nat.lt_or_ge j k with y | y
      · exact ih.1.mp z.1 j y
      · rw [show j = k by omega]; exact z.2
    · rw [if_neg z]
      refine ⟨⟨fun h => by omega, fun h => absurd ⟨ih.1.mpr (fun j hj => h j (by omega)), h k (by omega)⟩ z⟩, Or.inl rfl⟩
set_option maxHeartbeats 4000000 in
set_option maxRecDepth 100000 in
theorem c_X10_isFree {l : Launch} {Q : TS} {d : Nat} {M : Mem} {P : PMem} (hGr : GrM P) (hQ0 : MsR M Q) (hd : d < 6) : CtI l yX10_isFree cX10_isFree 4 (some .boolean) 0 0 77 [vR 45, vI d] M P (pI (frI (qf Q) d (qn Q)) M P) := by
  refine Ct_of (own := RX10) (L := [vR 45, vI d, vX 1, vX 1]) (by decide) rfl rfl (Nat.le_of_ble_eq_true rfl) (fun X Y hl hC hQ => ?_)
  obtain ⟨⟨h1, h2, h3, h4, h5⟩, ⟨M0, h6⟩, h7⟩ := id hQ0
  have hq6 : qn Q ≤ 6 := h6.2.2.2.2.2.2.1
  have hlie : ∀ i, qf Q i < 6 ∨ qf Q i = 7 := h6.2.2.2.2.2.2.2.2.2.2.2.2.1
  have hlp : ∀ (c k : Nat) (kv iv : Int), k + c = qn Q → kv = (k : Int) → iv = frI (qf Q) d k → G X Y 4 [vR 45, vI d, vI iv, vI kv] [] M P := by
    intro c
    induction c with
    | zero =>
      intro k kv iv hk e1 e2
      subst e1; subst e2
      have hfr := (frI_1 (f := qf Q) (d := d) k).2
      have hkn : k = qn Q := by omega
      refine G_il3 hC dX10_isFree_4 ?_
      refine G_al0 hC dX10_isFree_5 ?_
      refine G_getI hC fl_X10_109 (by first | assumption | rfl) (by omega) dX10_isFree_6 ?_
      rw [h1]
      refine G_icmp_ge (tgt := 38) hC dX10_isFree_9 (by decide) (by omega) (by omega) (fun c9 => ?_) (fun c9 => ?_)
      · refine G_il2 hC dX10_isFree_38 ?_
        exact G_zret hC hQ dX10_isFree_39 (by omega) ⟨_, rfl, by rw [hkn], rfl, rfl⟩
      · exact absurd c9 (by omega)
    | succ c ih =>
      intro k kv iv hk e1 e2
      subst e1; subst e2
      have hfr := (frI_1 (f := qf Q) (d := d) k).2
      have hv := (h7 k (by omega)).2.2.1
      have hvr := nv_r (d := qf Q k) (by rcases hlie k with q | q <;> omega)
      have hne : nv (qf Q k) = (d : Int) ↔ qf Q k = d := by
        unfold nv
        split <;> omega
      refine G_il3 hC dX10_isFree_4 ?_
      refine G_al0 hC dX10_isFree_5 ?_
      refine G_getI hC fl_X10_109 (by first | assumption | rfl) (by omega) dX10_isFree_6 ?_
      rw [h1]
      refine G_icmp_ge (tgt := 38) hC dX10_isFree_9 (by decide) (by omega) (by omega) (fun c9 => ?_) (fun c9 => ?_)
      · exact absurd c9 (by omega)
      · refine G_il2 hC dX10_isFree_12 ?_
        refine G_if_eq (tgt := 30) hC dX10_isFree_13 (by decide) (by omega) (fun c13 => ?_) (fun c13 => ?_)
        · refine G_iconst hC dX10_isFree_30 ?_
          refine G_is2 hC dX10_isFree_31 rfl ?_
          refine G_inc3 hC dX10_isFree_32 rfl ?_
          refine G_goto (tgt := 4) hC dX10_isFree_35 (by decide) ?_
          exact ih (k + 1) _ _ (by omega) (by omega) (by
            unfold frI
            first
              | (rw [if_pos ⟨by omega, fun e => c23 (hne.mpr e)⟩]; done)
              | (rw [if_neg (fun z => z.2 (hne.mp c23))]; done)
              | (rw [if_neg (fun z => by omega)]; done))
        · refine G_al0 hC dX10_isFree_16 ?_
          refine G_getR hC fl_X10_58 (by first | assumption | rfl) (by omega) (by first | assumption | exact hGr _ _ rfl) dX10_isFree_17 ?_
          refine G_il3 hC dX10_isFree_20 ?_
          refine G_ialoadN (n := k) hC (by first | assumption | rfl) (by omega) (by omega) (by omega) dX10_isFree_21 ?_
          rw [hv]
          refine G_il1 hC dX10_isFree_22 ?_
          refine G_icmp_eq (tgt := 30) hC dX10_isFree_23 (by decide) (by omega) (by omega) (fun c23 => ?_) (fun c23 => ?_)
          · refine G_iconst hC dX10_isFree_30 ?_
            refine G_is2 hC dX10_isFree_31 rfl ?_
            refine G_inc3 hC dX10_isFree_32 rfl ?_
            refine G_goto (tgt := 4) hC dX10_isFree_35 (by decide) ?_
            exact ih (k + 1) _ _ (by omega) (by omega) (by
              unfold frI
              first
                | (rw [if_pos ⟨by omega, fun e => c23 (hne.mpr e)⟩]; done)
                | (rw [if_neg (fun z => z.2 (hne.mp c23))]; done)
                | (rw [if_neg (fun z => by omega)]; done))
          · refine G_iconst hC dX10_isFree_26 ?_
            refine G_goto (tgt := 31) hC dX10_isFree_27 (by decide) ?_
            refine G_is2 hC dX10_isFree_31 rfl ?_
            refine G_inc3 hC dX10_isFree_32 rfl ?_
            refine G_goto (tgt := 4) hC dX10_isFree_35 (by decide) ?_
            exact ih (k + 1) _ _ (by omega) (by omega) (by
              unfold frI
              first
                | (rw [if_pos ⟨by omega, fun e => c23 (hne.mpr e)⟩]; done)
                | (rw [if_neg (fun z => z.2 (hne.mp c23))]; done)
                | (rw [if_neg (fun z => by omega)]; done))
  refine G_iconst hC dX10_isFree_0 ?_
  refine G_is2 hC dX10_isFree_1 rfl ?_
  refine G_iconst hC dX10_isFree_2 ?_
  refine G_is3 hC dX10_isFree_3 rfl ?_
  exact hlp (qn Q) 0 _ _ (by omega) rfl rfl
def giM (M : Mem) (n j : Nat) : Mem := fun a b => if a = 61 ∧ 6 * n ≤ b ∧ b < 6 * n + j then 1 else M a b
theorem giM_0 {M : Mem} {n : Nat} : giM M n 0 = M := by funext a b; unfold giM; rw [if_neg (by omega)]
theorem giM_s {M : Mem} {n j : Nat} : upM (giM M n j) 61 (6 * n + j) 1 = giM M n (j + 1) := by
  funext a b
  unfold giM upM
  dsimp only
  by_cases h : a = 61 ∧ b = 6 * n + j
  · rw [if_pos h, if_pos (by omega)]
  · rw [if_neg h]
    by_cases h2 : a = 61 ∧ 6 * n ≤ b ∧ b < 6 * n + j
    · rw [if_pos h2, if_pos (by omega)]
    · rw [if_neg h2, if_neg (by omega)]
theorem giM_o {M : Mem} {n j a : Nat} (h : a ≠ 61) (b : Nat) : giM M n j a b = M a b := by unfold giM; rw [if_neg (fun z => h z.1)]
def itQ (M : Mem) (P : PMem) (o : Option (Nat × TS)) (p : Nat) : Int → Mem → PMem → Prop := fun r M' P' => P = P' ∧ mK M M' ∧ ((r = 0 ∧ o = none) ∨ (r = 1 ∧ ∃ p' Q', o = some (p', Q') ∧ MsR M' Q' ∧ M' 45 22 = (p' : Int) ∧ p < p' ∧ p' ≤ p + 20))
theorem MsR_add {M : Mem} {Q : TS} {k d w : Nat} (h : MsR M Q) (hg : gOK Q k d w) : MsR (upM (giM (upM (upM (upM M 59 (qn Q) k) 62 (qn Q) (if d = 9 then -1 else (d : Int))) 60 (qn Q) w) (qn Q) 6) 45 23 ((qn Q : Int) + 1)) (addG Q k d w) := by
  obtain ⟨⟨h1, h2, h3, h4, h5⟩, ⟨M0, h6⟩, h7⟩ := h
  have hd6 : qd Q ≤ 6 := h6.2.2.2.2.2.2.2.2.1
  have eo : ∀ a, a ≠ 45 → a ≠ 59 → a ≠ 60 → a ≠ 61 → a ≠ 62 → ∀ b, upM (giM (upM (upM (upM M 59 (qn Q) k) 62 (qn Q) (if d = 9 then -1 else (d : Int))) 60 (qn Q) w) (qn Q) 6) 45 23 ((qn Q : Int) + 1) a b = M a b := fun a a1 a2 a3 a4 a5 b => by rw [upM_ne a1, giM_o a4, upM_ne a3, upM_ne a5, upM_ne a2]
  have e45 : ∀ b, b ≠ 23 → upM (giM (upM (upM (upM M 59 (qn Q) k) 62 (qn Q) (if d = 9 then -1 else (d : Int))) 60 (qn Q) w) (qn Q) 6) 45 23 ((qn Q : Int) + 1) 45 b = M 45 b := fun b hb => by rw [upM_nej hb, giM_o (by omega), upM_ne (by omega), upM_ne (by omega), upM_ne (by omega)]
  refine ⟨⟨by rw [upM_self]; show _ = ((qn Q + 1 : Nat) : Int); omega, by rw [e45 _ (by omega)]; exact h2, by rw [e45 _ (by omega)]; exact h3, by rw [e45 _ (by omega)]; exact h4, by rw [e45 _ (by omega)]; exact h5⟩, ⟨_, ToR_add h6 hg⟩, fun g hgn => ?_⟩
  have hgn' : g < qn Q + 1 := hgn
  show _ = ((ud (qk Q) (qn Q) k g : Nat) : Int) ∧ _ = ((ud (qw Q) (qn Q) w g : Nat) : Int) ∧ _ = nv (ud (qf Q) (qn Q) (if d = 9 then 7 else d) g) ∧ ∀ x, x < 6 → _ = (((if g = qn Q then fun _ => 1 else qv Q g) x : Nat) : Int)
  have e59 : ∀ b, upM (giM (upM (upM (upM M 59 (qn Q) k) 62 (qn Q) (if d = 9 then -1 else (d : Int))) 60 (qn Q) w) (qn Q) 6) 45 23 ((qn Q : Int) + 1) 59 b = if b = qn Q then (k : Int) else M 59 b := fun b => by
    rw [upM_ne (by omega), giM_o (by omega), upM_ne (by omega), upM_ne (by omega)]
    unfold upM
    by_cases z : b = qn Q
    · rw [if_pos ⟨rfl, z⟩, if_pos z]
    · rw [if_neg (fun y => z y.2), if_neg z]
  have e60 : ∀ b, upM (giM (upM (upM (upM M 59 (qn Q) k) 62 (qn Q) (if d = 9 then -1 else (d : Int))) 60 (qn Q) w) (qn Q) 6) 45 23 ((qn Q : Int) + 1) 60 b = if b = qn Q then (w : Int) else M 60 b := fun b => by
    rw [upM_ne (by omega), giM_o (by omega)]
    by_cases z : b = qn Q
    · rw [z, upM_self, if_pos rfl]
    · rw [upM_nej z, upM_ne (by omega), upM_ne (by omega), if_neg z]
  have e62 : ∀ b, upM (giM (upM (upM (upM M 59 (qn Q) k) 62 (qn Q) (if d = 9 then -1 else (d : Int))) 60 (qn Q) w) (qn Q) 6) 45 23 ((qn Q : Int) + 1) 62 b = if b = qn Q then (if d = 9 then -1 else (d : Int)) else M 62 b := fun b => by
    rw [upM_ne (by omega), giM_o (by omega), upM_ne (by omega)]
    by_cases z : b = qn Q
    · rw [z, upM_self, if_pos rfl]
    · rw [upM_nej z, upM_ne (by omega), if_neg z]
  have e61 : ∀ b, upM (giM (upM (upM (upM M 59 (qn Q) k) 62 (qn Q) (if d = 9 then -1 else (d : Int))) 60 (qn Q) w) (qn Q) 6) 45 23 ((qn Q : Int) + 1) 61 b = if 6 * qn Q ≤ b ∧ b < 6 * qn Q + 6 then 1 else M 61 b := fun b => by
    rw [upM_ne (by omega)]
    unfold giM
    by_cases z : 6 * qn Q ≤ b ∧ b < 6 * qn Q + 6
    · rw [if_pos ⟨rfl, z⟩, if_pos z]
    · rw [if_neg (fun y => z y.2), if_neg z, upM_ne (by omega), upM_ne (by omega), upM_ne (by omega)]
  rw [e59, e60, e62]
  simp only [e61]
  unfold ud
  by_cases q : g = qn Q
  · subst q
    refine ⟨by rw [if_pos rfl, if_pos rfl], by rw [if_pos rfl, if_pos rfl], ?_, fun x hx => ?_⟩
    · rw [if_pos rfl, if_pos rfl]
      unfold nv
      rcases hg.2.2.1 with z | z
      · rw [if_pos z, if_pos (by rw [if_pos z])]
      · rw [if_neg (by omega), if_neg (by rw [if_neg (by omega)]; omega), if_neg (by omega)]
    · rw [if_pos (by omega), if_pos rfl]; rfl
  · obtain ⟨c1, c2, c3, c4⟩ := h7 g (by omega)
    refine ⟨by rw [if_neg q, if_neg q]; exact c1, by rw [if_neg q, if_neg q]; exact c2, by rw [if_neg q, if_neg q]; exact c3, fun x hx => ?_⟩
    rw [if_neg (by omega), if_neg q]
    exact c4 x hx
set_option maxHeartbeats 4000000 in
set_option maxRecDepth 100000 in
theorem c_X10_isGuestItem {l : Launch} {tx : Nat → Nat} {len p : Nat} {Q : TS} {M : Mem} {P : PMem} (hGr : GrM P) (hT : TxM M tx len) (hE : M 45 21 = (len : Int)) (hlen : len ≤ 300) (hp : M 45 22 = (p : Int)) (hp9 : p ≤ 500) (hQ0 : MsR M Q) : CtI l yX10_isGuestItem cX10_isGuestItem 5 (some .boolean) 2 44 77 [vR 45] M P (itQ M P (itmG tx len p Q) p) := by
  refine Ct_of (own := RX10) (L := [vR 45, vX 1, vX 1, vX 1, vX 1]) (by decide) rfl rfl (Nat.le_of_ble_eq_true rfl) (fun X Y hl hC hQ => ?_)
  obtain ⟨⟨u1, u2, u3, u4, u5⟩, ⟨M0, u6⟩, u7⟩ := id hQ0
  have hq6 : qn Q ≤ 6 := u6.2.2.2.2.2.2.1
  have hd6 : qd Q ≤ 6 := u6.2.2.2.2.2.2.2.2.1
  have h26 : 2 ^ qd Q ≤ 2 ^ 6 := Nat.pow_le_pow_right (by omega) hd6
  have h2p := Nat.two_pow_pos (qd Q)
  have f7 : ∀ i, qn Q ≤ i → qf Q i = 7 := u6.2.2.2.2.2.2.2.2.2.2.2.2.2.1
  have segC : ∀ (k d q : Nat) (M1 : Mem) (x3 x4 : AV), TxM M1 tx len → M1 45 21 = (len : Int) → M1 45 22 = (q : Int) → q ≤ 800 → MsR M1 Q → mK M M1 → k ≤ 3 → qn Q < 6 → (d = 9 ∨ (d < qd Q ∧ ∀ i, i < 6 → qf Q i ≠ d)) → p < q → q ≤ p + 10 → itmG tx len p Q = gC tx len Q k d q → G X Y 78 [vR 45, vI k, vI d, x3, x4] [] M1 P := by
    intro k d q M1 x3 x4 hT1 hE1 hq1 hq9 hQ1 hK1 hk3 hn6 hdd hpq hpq2 hi
    unfold gC at hi
    cases hn : numN tx len q with
    | none =>
      rw [nsp_0 hn] at hi
      refine G_al0 hC dX10_isGuestItem_78 ?_
      refine G_callVI hC (c_X10_number0 hGr hT1 hE1 hlen hq1 (by omega) hn) mv_X10_150 (by first | assumption | rfl) (by omega) (by decide) rfl (by decide) dX10_isGuestItem_79 rfl (Nat.le_of_ble_eq_true rfl) rfl (fun z79 M79 P79 h79 => ?_)
      obtain ⟨rfl, rfl, rfl⟩ := h79
      refine G_is3 hC dX10_isGuestItem_82 rfl ?_
      refine G_il3 hC dX10_isGuestItem_83 ?_
      refine G_iconst hC dX10_isGuestItem_84 ?_
      refine G_iconst hC dX10_isGuestItem_85 ?_
      refine G_al0 hC dX10_isGuestItem_86 ?_
      refine G_getI hC fl_X10_134 (by first | assumption | rfl) (by omega) dX10_isGuestItem_87 ?_
      rw [hQ1.1.2.1]
      refine G_ishl hC dX10_isGuestItem_90 ?_
      rw [show bShl 1 (qd Q) = ((2 ^ qd Q : Nat) : Int) by have := bShl_n (n := 1) (s := qd Q) (by omega) (by omega); rw [Nat.one_mul] at this; exact this]
      refine G_iconst hC dX10_isGuestItem_91 ?_
      refine G_isub hC dX10_isGuestItem_92 ?_
      refine G_callSI hC (c_in0 (by unfold i32r; omega) (by unfold i32r; omega) (by unfold i32r; omega) (by omega)) ms_X10_119 (by decide) rfl (by decide) dX10_isGuestItem_93 rfl (Nat.le_of_ble_eq_true rfl) rfl (fun z93 M93 P93 h93 => ?_)
      obtain ⟨rfl, rfl, rfl⟩ := h93
      refine G_if_eq (tgt := 108) hC dX10_isGuestItem_96 (by decide) (by omega) (fun c96 => ?_) (fun c96 => ?_)
      · refine G_iconst hC dX10_isGuestItem_108 ?_
        exact G_zret hC hQ dX10_isGuestItem_109 (by omega) ⟨_, rfl, rfl, hK1, Or.inl ⟨rfl, hi⟩⟩
      · exact absurd rfl c96
    | some x =>
      obtain ⟨w0, q1⟩ := x
      have hTa : TxM (upM M1 45 22 q1) tx len := TxM_6 hT1 (by omega)
      have hEa : upM M1 45 22 q1 45 21 = (len : Int) := by rw [upM_nej (by omega)]; exact hE1
      have hqa : upM M1 45 22 q1 45 22 = (q1 : Int) := upM_self _ _ _ _
      have hQa : MsR (upM M1 45 22 q1) Q := MsR_22 hQ1
      have hKa : mK M (upM M1 45 22 q1) := mK_22 hK1
      have hle := numN_le hn
      have ha0 := hQa.1.1
      have ha1 := hQa.1.2.1
      have hsh : bShl 1 (qd Q) = ((2 ^ qd Q : Nat) : Int) := by
        have := bShl_n (n := 1) (s := qd Q) (by omega) (by omega)
        rw [Nat.one_mul] at this
        exact this
      by_cases hwb : w0 < 2 ^ qd Q
      · by_cases hsg : q1 < len ∧ tx q1 = 59
        · rw [nsp_1 hn hsg] at hi
          have eM : upM (upM M1 45 22 q1) 45 22 (q1 + 1) = upM M1 45 22 ((q1 + 1 : Nat) : Int) := by
            funext x y; unfold upM
            by_cases z : x = 45 ∧ y = 22
            · rw [if_pos z, if_pos z]; omega
            · rw [if_neg z, if_neg z, if_neg z]
          have hTb : TxM (upM M1 45 22 ((q1 + 1 : Nat) : Int)) tx len := TxM_6 hT1 (by omega)
          have hEb : upM M1 45 22 ((q1 + 1 : Nat) : Int) 45 21 = (len : Int) := by rw [upM_nej (by omega)]; exact hE1
          have hqb : upM M1 45 22 ((q1 + 1 : Nat) : Int) 45 22 = ((q1 + 1 : Nat) : Int) := upM_self _ _ _ _
          have hQb : MsR (upM M1 45 22 ((q1 + 1 : Nat) : Int)) Q := MsR_22 hQ1
          have hKb : mK M (upM M1 45 22 ((q1 + 1 : Nat) : Int)) := mK_22 hK1
          have hok : gOK Q k d w0 := ⟨hn6, hk3, hdd, hwb⟩
          have hi2 : itmG tx len p Q = some (q1 + 1, addG Q k d w0) := by rw [hi]; exact gEnd_1 hok
          have hb0 := hQb.1.1
          have hlp : ∀ (c j : Nat) (jv : Int), j + c = 6 → jv = (j : Int) → G X Y 153 [vR 45, vI k, vI d, vI w0, vI jv] [] (giM (upM (upM (upM (upM M1 45 22 ((q1 + 1 : Nat) : Int)) 59 (qn Q) k) 62 (qn Q) (if d = 9 then -1 else (d : Int))) 60 (qn Q) w0) (qn Q) j) P := by
            intro c
            induction c with
            | zero =>
              intro j jv hj e1
              subst e1
              have : j = 6 := by omega
              subst this
              refine G_il4 hC dX10_isGuestItem_153 ?_
              refine G_bipush hC dX10_isGuestItem_155 (by decide) ?_
              refine G_icmp_ge (tgt := 182) hC dX10_isGuestItem_157 (by decide) (by omega) (by omega) (fun c157 => ?_) (fun c157 => ?_)
              · refine G_al0 hC dX10_isGuestItem_182 ?_
                refine G_dup hC dX10_isGuestItem_183 rfl ?_
                refine G_getI hC fl_X10_109 (by first | assumption | rfl) (by omega) dX10_isGuestItem_184 ?_
                rw [giM_o (by omega), upM_ne (by omega), upM_ne (by omega), upM_ne (by omega), hb0]
                refine G_iconst hC dX10_isGuestItem_187 ?_
                refine G_iadd hC dX10_isGuestItem_188 ?_
                refine G_putI hC fl_X10_109 (by first | assumption | rfl) (by omega) dX10_isGuestItem_189 ?_
                refine G_iconst hC dX10_isGuestItem_192 ?_
                exact G_zret hC hQ dX10_isGuestItem_193 (by omega) ⟨_, rfl, rfl, hKb.trans ⟨fun a ha b => by
  unfold sMs at ha
  rw [upM_ne (by omega), giM_o (by omega), upM_ne (by omega), upM_ne (by omega), upM_ne (by omega)], fun b hb => by
  rw [upM_nej (by omega), giM_o (by omega), upM_ne (by omega), upM_ne (by omega), upM_ne (by omega)]⟩, Or.inr ⟨rfl, q1 + 1, _, hi2, MsR_add hQb hok, by
  rw [upM_nej (by omega), giM_o (by omega), upM_ne (by omega), upM_ne (by omega), upM_ne (by omega)]; exact hqb, by omega, by omega⟩⟩
              · exact absurd c157 (by omega)
            | succ c ih =>
              intro j jv hj e1
              subst e1
              refine G_il4 hC dX10_isGuestItem_153 ?_
              refine G_bipush hC dX10_isGuestItem_155 (by decide) ?_
              refine G_icmp_ge (tgt := 182) hC dX10_isGuestItem_157 (by decide) (by omega) (by omega) (fun c157 => ?_) (fun c157 => ?_)
              · exact absurd c157 (by omega)
              · refine G_al0 hC dX10_isGuestItem_160 ?_
                refine G_getR hC fl_X10_55 (by first | assumption | rfl) (by omega) (by first | assumption | exact hGr _ _ rfl) dX10_isGuestItem_161 ?_
                refine G_bipush hC dX10_isGuestItem_164 (by decide) ?_
                refine G_al0 hC dX10_isGuestItem_166 ?_
                refine G_getI hC fl_X10_109 (by first | assumption | rfl) (by omega) dX10_isGuestItem_167 ?_
                rw [giM_o (by omega), upM_ne (by omega), upM_ne (by omega), upM_ne (by omega), hb0]
                refine G_imul hC dX10_isGuestItem_170 ?_
                refine G_il4 hC dX10_isGuestItem_171 ?_
                refine G_iadd hC dX10_isGuestItem_173 ?_
                refine G_iconst hC dX10_isGuestItem_174 ?_
                refine G_iastoreN (n := 6 * qn Q + j) hC (by first | assumption | rfl) (by omega) (by omega) (by omega) dX10_isGuestItem_175 ?_
                refine G_inc4 hC dX10_isGuestItem_176 rfl ?_
                refine G_goto (tgt := 153) hC dX10_isGuestItem_179 (by decide) ?_
                rw [giM_s]
                exact ih (j + 1) _ (by omega) (by omega)
          refine G_al0 hC dX10_isGuestItem_78 ?_
          refine G_callVI hC (c_X10_number1 hGr hT1 hE1 hlen hq1 (by omega) hn) mv_X10_150 (by first | assumption | rfl) (by omega) (by decide) rfl (by decide) dX10_isGuestItem_79 rfl (Nat.le_of_ble_eq_true rfl) rfl (fun z79 M79 P79 h79 => ?_)
          obtain ⟨rfl, rfl, rfl⟩ := h79
          refine G_is3 hC dX10_isGuestItem_82 rfl ?_
          refine G_il3 hC dX10_isGuestItem_83 ?_
          refine G_iconst hC dX10_isGuestItem_84 ?_
          refine G_iconst hC dX10_isGuestItem_85 ?_
          refine G_al0 hC dX10_isGuestItem_86 ?_
          refine G_getI hC fl_X10_134 (by first | assumption | rfl) (by omega) dX10_isGuestItem_87 ?_
          rw [ha1]
          refine G_ishl hC dX10_isGuestItem_90 ?_
          rw [hsh]
          refine G_iconst hC dX10_isGuestItem_91 ?_
          refine G_isub hC dX10_isGuestItem_92 ?_
          refine G_callSI hC (c_in1 (by unfold i32r; omega) (by unfold i32r; omega) (by unfold i32r; omega) (by omega)) ms_X10_119 (by decide) rfl (by decide) dX10_isGuestItem_93 rfl (Nat.le_of_ble_eq_true rfl) rfl (fun z93 M93 P93 h93 => ?_)
          obtain ⟨rfl, rfl, rfl⟩ := h93
          refine G_if_eq (tgt := 108) hC dX10_isGuestItem_96 (by decide) (by omega) (fun c96 => ?_) (fun c96 => ?_)
          · exact absurd c96 (by omega)
          · refine G_al0 hC dX10_isGuestItem_99 ?_
            refine G_bipush hC dX10_isGuestItem_100 (by decide) ?_
            refine G_callVI hC (c_X10_isSign1 (q := 59) hGr hTa hEa hlen hqa (by omega) hsg) mv_X10_153 (by first | assumption | rfl) (by omega) (by decide) rfl (by decide) dX10_isGuestItem_102 rfl (Nat.le_of_ble_eq_true rfl) rfl (fun z102 M102 P102 h102 => ?_)
            obtain ⟨rfl, rfl, rfl⟩ := h102
            refine G_if_ne (tgt := 110) hC dX10_isGuestItem_105 (by decide) (by omega) (fun c105 => ?_) (fun c105 => ?_)
            · rw [eM]
              refine G_al0 hC dX10_isGuestItem_110 ?_
              refine G_getR hC fl_X10_49 (by first | assumption | rfl) (by omega) (by first | assumption | exact hGr _ _ rfl) dX10_isGuestItem_111 ?_
              refine G_al0 hC dX10_isGuestItem_114 ?_
              refine G_getI hC fl_X10_109 (by first | assumption | rfl) (by omega) dX10_isGuestItem_115 ?_
              rw [hb0]
              refine G_il1 hC dX10_isGuestItem_118 ?_
              refine G_iastoreN (n := qn Q) hC (by first | assumption | rfl) (by omega) (by omega) (by omega) dX10_isGuestItem_119 ?_
              refine G_al0 hC dX10_isGuestItem_120 ?_
              refine G_getR hC fl_X10_58 (by first | assumption | rfl) (by omega) (by first | assumption | exact hGr _ _ rfl) dX10_isGuestItem_121 ?_
              refine G_al0 hC dX10_isGuestItem_124 ?_
              refine G_getI hC fl_X10_109 (by first | assumption | rfl) (by omega) dX10_isGuestItem_125 ?_
              rw [upM_ne (by omega), hb0]
              refine G_il2 hC dX10_isGuestItem_128 ?_
              refine G_bipush hC dX10_isGuestItem_129 (by decide) ?_
              refine G_icmp_ne (tgt := 138) hC dX10_isGuestItem_131 (by decide) (by omega) (by omega) (fun c131 => ?_) (fun c131 => ?_)
              · refine G_il2 hC dX10_isGuestItem_138 ?_
                refine G_iastoreN (n := qn Q) hC (by first | assumption | rfl) (by omega) (by omega) (by omega) dX10_isGuestItem_139 ?_
                refine G_al0 hC dX10_isGuestItem_140 ?_
                refine G_getR hC fl_X10_52 (by first | assumption | rfl) (by omega) (by first | assumption | exact hGr _ _ rfl) dX10_isGuestItem_141 ?_
                refine G_al0 hC dX10_isGuestItem_144 ?_
                refine G_getI hC fl_X10_109 (by first | assumption | rfl) (by omega) dX10_isGuestItem_145 ?_
                rw [upM_ne (by omega), upM_ne (by omega), hb0]
                refine G_il3 hC dX10_isGuestItem_148 ?_
                refine G_iastoreN (n := qn Q) hC (by first | assumption | rfl) (by omega) (by omega) (by omega) dX10_isGuestItem_149 ?_
                refine G_iconst hC dX10_isGuestItem_150 ?_
                refine G_is4 hC dX10_isGuestItem_151 rfl ?_
                have h0 := hlp 6 0 0 (by omega) rfl
                rw [giM_0] at h0
                first
                  | (rw [if_pos (by omega)] at h0; exact h0)
                  | (rw [if_neg (by omega)] at h0; exact h0)
              · refine G_iconst hC dX10_isGuestItem_134 ?_
                refine G_goto (tgt := 139) hC dX10_isGuestItem_135 (by decide) ?_
                refine G_iastoreN (n := qn Q) hC (by first | assumption | rfl) (by omega) (by omega) (by omega) dX10_isGuestItem_139 ?_
                refine G_al0 hC dX10_isGuestItem_140 ?_
                refine G_getR hC fl_X10_52 (by first | assumption | rfl) (by omega) (by first | assumption | exact hGr _ _ rfl) dX10_isGuestItem_141 ?_
                refine G_al0 hC dX10_isGuestItem_144 ?_
                refine G_getI hC fl_X10_109 (by first | assumption | rfl) (by omega) dX10_isGuestItem_145 ?_
                rw [upM_ne (by omega), upM_ne (by omega), hb0]
                refine G_il3 hC dX10_isGuestItem_148 ?_
                refine G_iastoreN (n := qn Q) hC (by first | assumption | rfl) (by omega) (by omega) (by omega) dX10_isGuestItem_149 ?_
                refine G_iconst hC dX10_isGuestItem_150 ?_
                refine G_is4 hC dX10_isGuestItem_151 rfl ?_
                have h0 := hlp 6 0 0 (by omega) rfl
                rw [giM_0] at h0
                first
                  | (rw [if_pos (by omega)] at h0; exact h0)
                  | (rw [if_neg (by omega)] at h0; exact h0)
            · exact absurd c105 (by omega)
        · rw [nsp_2 hn hsg] at hi
          refine G_al0 hC dX10_isGuestItem_78 ?_
          refine G_callVI hC (c_X10_number1 hGr hT1 hE1 hlen hq1 (by omega) hn) mv_X10_150 (by first | assumption | rfl) (by omega) (by decide) rfl (by decide) dX10_isGuestItem_79 rfl (Nat.le_of_ble_eq_true rfl) rfl (fun z79 M79 P79 h79 => ?_)
          obtain ⟨rfl, rfl, rfl⟩ := h79
          refine G_is3 hC dX10_isGuestItem_82 rfl ?_
          refine G_il3 hC dX10_isGuestItem_83 ?_
          refine G_iconst hC dX10_isGuestItem_84 ?_
          refine G_iconst hC dX10_isGuestItem_85 ?_
          refine G_al0 hC dX10_isGuestItem_86 ?_
          refine G_getI hC fl_X10_134 (by first | assumption | rfl) (by omega) dX10_isGuestItem_87 ?_
          rw [ha1]
          refine G_ishl hC dX10_isGuestItem_90 ?_
          rw [hsh]
          refine G_iconst hC dX10_isGuestItem_91 ?_
          refine G_isub hC dX10_isGuestItem_92 ?_
          refine G_callSI hC (c_in1 (by unfold i32r; omega) (by unfold i32r; omega) (by unfold i32r; omega) (by omega)) ms_X10_119 (by decide) rfl (by decide) dX10_isGuestItem_93 rfl (Nat.le_of_ble_eq_true rfl) rfl (fun z93 M93 P93 h93 => ?_)
          obtain ⟨rfl, rfl, rfl⟩ := h93
          refine G_if_eq (tgt := 108) hC dX10_isGuestItem_96 (by decide) (by omega) (fun c96 => ?_) (fun c96 => ?_)
          · exact absurd c96 (by omega)
          · refine G_al0 hC dX10_isGuestItem_99 ?_
            refine G_bipush hC dX10_isGuestItem_100 (by decide) ?_
            refine G_callVI hC (c_X10_isSign0 (q := 59) hGr hTa hEa hlen hqa (by omega) (by omega) hsg) mv_X10_153 (by first | assumption | rfl) (by omega) (by decide) rfl (by decide) dX10_isGuestItem_102 rfl (Nat.le_of_ble_eq_true rfl) rfl (fun z102 M102 P102 h102 => ?_)
            obtain ⟨rfl, rfl, rfl⟩ := h102
            refine G_if_ne (tgt := 110) hC dX10_isGuestItem_105 (by decide) (by omega) (fun c105 => ?_) (fun c105 => ?_)
            · exact absurd rfl c105
            · refine G_iconst hC dX10_isGuestItem_108 ?_
              exact G_zret hC hQ dX10_isGuestItem_109 (by omega) ⟨_, rfl, rfl, hKa, Or.inl ⟨rfl, hi⟩⟩
      · have hbad : itmG tx len p Q = none := by
          rw [hi]
          cases hns : nsp tx len q 59 with
          | none => rfl
          | some y =>
            obtain ⟨y1, y2⟩ := y
            have : y1 = w0 := by
              unfold nsp at hns; rw [hn] at hns; simp only at hns
              by_cases hz : q1 < len ∧ tx q1 = 59
              · rw [if_pos hz] at hns; cases hns; rfl
              · rw [if_neg hz] at hns; cases hns
            exact gEnd_0 (fun z => by have := z.2.2.2; omega)
        refine G_al0 hC dX10_isGuestItem_78 ?_
        refine G_callVI hC (c_X10_number1 hGr hT1 hE1 hlen hq1 (by omega) hn) mv_X10_150 (by first | assumption | rfl) (by omega) (by decide) rfl (by decide) dX10_isGuestItem_79 rfl (Nat.le_of_ble_eq_true rfl) rfl (fun z79 M79 P79 h79 => ?_)
        obtain ⟨rfl, rfl, rfl⟩ := h79
        refine G_is3 hC dX10_isGuestItem_82 rfl ?_
        refine G_il3 hC dX10_isGuestItem_83 ?_
        refine G_iconst hC dX10_isGuestItem_84 ?_
        refine G_iconst hC dX10_isGuestItem_85 ?_
        refine G_al0 hC dX10_isGuestItem_86 ?_
        refine G_getI hC fl_X10_134 (by first | assumption | rfl) (by omega) dX10_isGuestItem_87 ?_
        rw [ha1]
        refine G_ishl hC dX10_isGuestItem_90 ?_
        rw [hsh]
        refine G_iconst hC dX10_isGuestItem_91 ?_
        refine G_isub hC dX10_isGuestItem_92 ?_
        refine G_callSI hC (c_in0 (by unfold i32r; omega) (by unfold i32r; omega) (by unfold i32r; omega) (by omega)) ms_X10_119 (by decide) rfl (by decide) dX10_isGuestItem_93 rfl (Nat.le_of_ble_eq_true rfl) rfl (fun z93 M93 P93 h93 => ?_)
        obtain ⟨rfl, rfl, rfl⟩ := h93
        refine G_if_eq (tgt := 108) hC dX10_isGuestItem_96 (by decide) (by omega) (fun c96 => ?_) (fun c96 => ?_)
        · refine G_iconst hC dX10_isGuestItem_108 ?_
          exact G_zret hC hQ dX10_isGuestItem_109 (by omega) ⟨_, rfl, rfl, hKa, Or.inl ⟨rfl, hbad⟩⟩
        · exact absurd rfl c96
  have segB : ∀ (k q : Nat) (M1 : Mem) (x2 x3 x4 : AV), TxM M1 tx len → M1 45 21 = (len : Int) → M1 45 22 = (q : Int) → q ≤ 800 → MsR M1 Q → mK M M1 → k ≤ 3 → qn Q < 6 → p < q → q ≤ p + 5 → itmG tx len p Q = gB tx len Q k q → G X Y 34 [vR 45, vI k, x2, x3, x4] [] M1 P := by
    intro k q M1 x2 x3 x4 hT1 hE1 hq1 hq9 hQ1 hK1 hk3 hn6 hpq hpq2 hi
    unfold gB at hi
    cases hn : numN tx len q with
    | none =>
      rw [nsp_0 hn] at hi
      refine G_al0 hC dX10_isGuestItem_34 ?_
      refine G_callVI hC (c_X10_number0 hGr hT1 hE1 hlen hq1 (by omega) hn) mv_X10_150 (by first | assumption | rfl) (by omega) (by decide) rfl (by decide) dX10_isGuestItem_35 rfl (Nat.le_of_ble_eq_true rfl) rfl (fun z35 M35 P35 h35 => ?_)
      obtain ⟨rfl, rfl, rfl⟩ := h35
      refine G_is2 hC dX10_isGuestItem_38 rfl ?_
      refine G_il2 hC dX10_isGuestItem_39 ?_
      refine G_bipush hC dX10_isGuestItem_40 (by decide) ?_
      refine G_icmp_eq (tgt := 67) hC dX10_isGuestItem_42 (by decide) (by omega) (by omega) (fun c42 => ?_) (fun c42 => ?_)
      · exact absurd c42 (by omega)
      · refine G_il2 hC dX10_isGuestItem_45 ?_
        refine G_iconst hC dX10_isGuestItem_46 ?_
        refine G_al0 hC dX10_isGuestItem_47 ?_
        refine G_getI hC fl_X10_134 (by first | assumption | rfl) (by omega) dX10_isGuestItem_48 ?_
        rw [hQ1.1.2.1]
        refine G_iconst hC dX10_isGuestItem_51 ?_
        refine G_isub hC dX10_isGuestItem_52 ?_
        refine G_callSI hC (c_in0 (by unfold i32r; omega) (by unfold i32r; omega) (by unfold i32r; omega) (by omega)) ms_X10_119 (by decide) rfl (by decide) dX10_isGuestItem_53 rfl (Nat.le_of_ble_eq_true rfl) rfl (fun z53 M53 P53 h53 => ?_)
        obtain ⟨rfl, rfl, rfl⟩ := h53
        refine G_if_eq (tgt := 76) hC dX10_isGuestItem_56 (by decide) (by omega) (fun c56 => ?_) (fun c56 => ?_)
        · refine G_iconst hC dX10_isGuestItem_76 ?_
          exact G_zret hC hQ dX10_isGuestItem_77 (by omega) ⟨_, rfl, rfl, hK1, Or.inl ⟨rfl, hi⟩⟩
        · exact absurd rfl c56
    | some x =>
      obtain ⟨d, q1⟩ := x
      have hTa : TxM (upM M1 45 22 q1) tx len := TxM_6 hT1 (by omega)
      have hEa : upM M1 45 22 q1 45 21 = (len : Int) := by rw [upM_nej (by omega)]; exact hE1
      have hqa : upM M1 45 22 q1 45 22 = (q1 : Int) := upM_self _ _ _ _
      have hQa : MsR (upM M1 45 22 q1) Q := MsR_22 hQ1
      have hKa : mK M (upM M1 45 22 q1) := mK_22 hK1
      have hle := numN_le hn
      have ha0 := hQa.1.1
      have ha1 := hQa.1.2.1
      have hgo : (d = 9 ∨ (d < qd Q ∧ ∀ i, i < 6 → qf Q i ≠ d)) → (q1 < len ∧ tx q1 = 44) → G X Y 78 [vR 45, vI k, vI d, x3, x4] [] (upM (upM M1 45 22 q1) 45 22 (q1 + 1)) P := by
        intro hdd hsg
        rw [nsp_1 hn hsg] at hi
        have eM : upM (upM M1 45 22 q1) 45 22 (q1 + 1) = upM M1 45 22 ((q1 + 1 : Nat) : Int) := by
          funext x y; unfold upM
          by_cases z : x = 45 ∧ y = 22
          · rw [if_pos z, if_pos z]; omega
          · rw [if_neg z, if_neg z, if_neg z]
        have hTb : TxM (upM M1 45 22 ((q1 + 1 : Nat) : Int)) tx len := TxM_6 hT1 (by omega)
        have hEb : upM M1 45 22 ((q1 + 1 : Nat) : Int) 45 21 = (len : Int) := by rw [upM_nej (by omega)]; exact hE1
        have hqb : upM M1 45 22 ((q1 + 1 : Nat) : Int) 45 22 = ((q1 + 1 : Nat) : Int) := upM_self _ _ _ _
        have hQb : MsR (upM M1 45 22 ((q1 + 1 : Nat) : Int)) Q := MsR_22 hQ1
        have hKb : mK M (upM M1 45 22 ((q1 + 1 : Nat) : Int)) := mK_22 hK1
        rw [eM]
        exact segC k d (q1 + 1) _ _ _ hTb hEb hqb (by omega) hQb hKb hk3 hn6 hdd (by omega) (by omega) hi
      have hbad : ¬ (d = 9 ∨ (d < qd Q ∧ ∀ i, i < 6 → qf Q i ≠ d)) → itmG tx len p Q = none := fun hb => by
        rw [hi]
        cases hns : nsp tx len q 44 with
        | none => rfl
        | some y =>
          obtain ⟨y1, y2⟩ := y
          have : y1 = d := by
            unfold nsp at hns; rw [hn] at hns; simp only at hns
            by_cases hz : q1 < len ∧ tx q1 = 44
            · rw [if_pos hz] at hns; cases hns; rfl
            · rw [if_neg hz] at hns; cases hns
          exact gC_bad (fun w z => hb (by rw [← this]; exact z.2.2.1))
      have hbs : ¬ (q1 < len ∧ tx q1 = 44) → itmG tx len p Q = none := fun hb => by rw [hi, nsp_2 hn hb]
      by_cases h9 : d = 9
      · by_cases hsg : q1 < len ∧ tx q1 = 44
        · refine G_al0 hC dX10_isGuestItem_34 ?_
          refine G_callVI hC (c_X10_number1 hGr hT1 hE1 hlen hq1 (by omega) hn) mv_X10_150 (by first | assumption | rfl) (by omega) (by decide) rfl (by decide) dX10_isGuestItem_35 rfl (Nat.le_of_ble_eq_true rfl) rfl (fun z35 M35 P35 h35 => ?_)
          obtain ⟨rfl, rfl, rfl⟩ := h35
          refine G_is2 hC dX10_isGuestItem_38 rfl ?_
          refine G_il2 hC dX10_isGuestItem_39 ?_
          refine G_bipush hC dX10_isGuestItem_40 (by decide) ?_
          refine G_icmp_eq (tgt := 67) hC dX10_isGuestItem_42 (by decide) (by omega) (by omega) (fun c42 => ?_) (fun c42 => ?_)
          · refine G_al0 hC dX10_isGuestItem_67 ?_
            refine G_bipush hC dX10_isGuestItem_68 (by decide) ?_
            refine G_callVI hC (c_X10_isSign1 (q := 44) hGr hTa hEa hlen hqa (by omega) hsg) mv_X10_153 (by first | assumption | rfl) (by omega) (by decide) rfl (by decide) dX10_isGuestItem_70 rfl (Nat.le_of_ble_eq_true rfl) rfl (fun z70 M70 P70 h70 => ?_)
            obtain ⟨rfl, rfl, rfl⟩ := h70
            refine G_if_ne (tgt := 78) hC dX10_isGuestItem_73 (by decide) (by omega) (fun c73 => ?_) (fun c73 => ?_)
            · exact hgo (Or.inl h9) hsg
            · exact absurd c73 (by omega)
          · exact absurd (by omega) c42
        · refine G_al0 hC dX10_isGuestItem_34 ?_
          refine G_callVI hC (c_X10_number1 hGr hT1 hE1 hlen hq1 (by omega) hn) mv_X10_150 (by first | assumption | rfl) (by omega) (by decide) rfl (by decide) dX10_isGuestItem_35 rfl (Nat.le_of_ble_eq_true rfl) rfl (fun z35 M35 P35 h35 => ?_)
          obtain ⟨rfl, rfl, rfl⟩ := h35
          refine G_is2 hC dX10_isGuestItem_38 rfl ?_
          refine G_il2 hC dX10_isGuestItem_39 ?_
          refine G_bipush hC dX10_isGuestItem_40 (by decide) ?_
          refine G_icmp_eq (tgt := 67) hC dX10_isGuestItem_42 (by decide) (by omega) (by omega) (fun c42 => ?_) (fun c42 => ?_)
          · refine G_al0 hC dX10_isGuestItem_67 ?_
            refine G_bipush hC dX10_isGuestItem_68 (by decide) ?_
            refine G_callVI hC (c_X10_isSign0 (q := 44) hGr hTa hEa hlen hqa (by omega) (by omega) hsg) mv_X10_153 (by first | assumption | rfl) (by omega) (by decide) rfl (by decide) dX10_isGuestItem_70 rfl (Nat.le_of_ble_eq_true rfl) rfl (fun z70 M70 P70 h70 => ?_)
            obtain ⟨rfl, rfl, rfl⟩ := h70
            refine G_if_ne (tgt := 78) hC dX10_isGuestItem_73 (by decide) (by omega) (fun c73 => ?_) (fun c73 => ?_)
            · exact absurd rfl c73
            · refine G_iconst hC dX10_isGuestItem_76 ?_
              exact G_zret hC hQ dX10_isGuestItem_77 (by omega) ⟨_, rfl, rfl, hKa, Or.inl ⟨rfl, hbs hsg⟩⟩
          · exact absurd (by omega) c42
      · by_cases hdl : d < qd Q
        · have hfr := frI_1 (f := qf Q) (d := d) (qn Q)
          by_cases hf1 : frI (qf Q) d (qn Q) = 1
          · have hfree : ∀ i, i < 6 → qf Q i ≠ d := fun i hi6 => by
              rcases Nat.lt_or_ge i (qn Q) with z | z
              · exact hfr.1.mp hf1 i z
              · rw [f7 i z]; omega
            by_cases hsg : q1 < len ∧ tx q1 = 44
            · refine G_al0 hC dX10_isGuestItem_34 ?_
              refine G_callVI hC (c_X10_number1 hGr hT1 hE1 hlen hq1 (by omega) hn) mv_X10_150 (by first | assumption | rfl) (by omega) (by decide) rfl (by decide) dX10_isGuestItem_35 rfl (Nat.le_of_ble_eq_true rfl) rfl (fun z35 M35 P35 h35 => ?_)
              obtain ⟨rfl, rfl, rfl⟩ := h35
              refine G_is2 hC dX10_isGuestItem_38 rfl ?_
              refine G_il2 hC dX10_isGuestItem_39 ?_
              refine G_bipush hC dX10_isGuestItem_40 (by decide) ?_
              refine G_icmp_eq (tgt := 67) hC dX10_isGuestItem_42 (by decide) (by omega) (by omega) (fun c42 => ?_) (fun c42 => ?_)
              · exact absurd c42 (by omega)
              · refine G_il2 hC dX10_isGuestItem_45 ?_
                refine G_iconst hC dX10_isGuestItem_46 ?_
                refine G_al0 hC dX10_isGuestItem_47 ?_
                refine G_getI hC fl_X10_134 (by first | assumption | rfl) (by omega) dX10_isGuestItem_48 ?_
                rw [ha1]
                refine G_iconst hC dX10_isGuestItem_51 ?_
                refine G_isub hC dX10_isGuestItem_52 ?_
                refine G_callSI hC (c_in1 (by unfold i32r; omega) (by unfold i32r; omega) (by unfold i32r; omega) (by omega)) ms_X10_119 (by decide) rfl (by decide) dX10_isGuestItem_53 rfl (Nat.le_of_ble_eq_true rfl) rfl (fun z53 M53 P53 h53 => ?_)
                obtain ⟨rfl, rfl, rfl⟩ := h53
                refine G_if_eq (tgt := 76) hC dX10_isGuestItem_56 (by decide) (by omega) (fun c56 => ?_) (fun c56 => ?_)
                · exact absurd c56 (by omega)
                · refine G_al0 hC dX10_isGuestItem_59 ?_
                  refine G_il2 hC dX10_isGuestItem_60 ?_
                  refine G_callVI hC (c_X10_isFree (d := d) hGr hQa (by omega)) mv_X10_157 (by first | assumption | rfl) (by omega) (by decide) rfl (by decide) dX10_isGuestItem_61 rfl (Nat.le_of_ble_eq_true rfl) rfl (fun z61 M61 P61 h61 => ?_)
                  obtain ⟨rfl, rfl, rfl⟩ := h61
                  rw [hf1]
                  refine G_if_eq (tgt := 76) hC dX10_isGuestItem_64 (by decide) (by omega) (fun c64 => ?_) (fun c64 => ?_)
                  · exact absurd c64 (by omega)
                  · refine G_al0 hC dX10_isGuestItem_67 ?_
                    refine G_bipush hC dX10_isGuestItem_68 (by decide) ?_
                    refine G_callVI hC (c_X10_isSign1 (q := 44) hGr hTa hEa hlen hqa (by omega) hsg) mv_X10_153 (by first | assumption | rfl) (by omega) (by decide) rfl (by decide) dX10_isGuestItem_70 rfl (Nat.le_of_ble_eq_true rfl) rfl (fun z70 M70 P70 h70 => ?_)
                    obtain ⟨rfl, rfl, rfl⟩ := h70
                    refine G_if_ne (tgt := 78) hC dX10_isGuestItem_73 (by decide) (by omega) (fun c73 => ?_) (fun c73 => ?_)
                    · exact hgo (Or.inr ⟨hdl, hfree⟩) hsg
                    · exact absurd c73 (by omega)
            · refine G_al0 hC dX10_isGuestItem_34 ?_
              refine G_callVI hC (c_X10_number1 hGr hT1 hE1 hlen hq1 (by omega) hn) mv_X10_150 (by first | assumption | rfl) (by omega) (by decide) rfl (by decide) dX10_isGuestItem_35 rfl (Nat.le_of_ble_eq_true rfl) rfl (fun z35 M35 P35 h35 => ?_)
              obtain ⟨rfl, rfl, rfl⟩ := h35
              refine G_is2 hC dX10_isGuestItem_38 rfl ?_
              refine G_il2 hC dX10_isGuestItem_39 ?_
              refine G_bipush hC dX10_isGuestItem_40 (by decide) ?_
              refine G_icmp_eq (tgt := 67) hC dX10_isGuestItem_42 (by decide) (by omega) (by omega) (fun c42 => ?_) (fun c42 => ?_)
              · exact absurd c42 (by omega)
              · refine G_il2 hC dX10_isGuestItem_45 ?_
                refine G_iconst hC dX10_isGuestItem_46 ?_
                refine G_al0 hC dX10_isGuestItem_47 ?_
                refine G_getI hC fl_X10_134 (by first | assumption | rfl) (by omega) dX10_isGuestItem_48 ?_
                rw [ha1]
                refine G_iconst hC dX10_isGuestItem_51 ?_
                refine G_isub hC dX10_isGuestItem_52 ?_
                refine G_callSI hC (c_in1 (by unfold i32r; omega) (by unfold i32r; omega) (by unfold i32r; omega) (by omega)) ms_X10_119 (by decide) rfl (by decide) dX10_isGuestItem_53 rfl (Nat.le_of_ble_eq_true rfl) rfl (fun z53 M53 P53 h53 => ?_)
                obtain ⟨rfl, rfl, rfl⟩ := h53
                refine G_if_eq (tgt := 76) hC dX10_isGuestItem_56 (by decide) (by omega) (fun c56 => ?_) (fun c56 => ?_)
                · exact absurd c56 (by omega)
                · refine G_al0 hC dX10_isGuestItem_59 ?_
                  refine G_il2 hC dX10_isGuestItem_60 ?_
                  refine G_callVI hC (c_X10_isFree (d := d) hGr hQa (by omega)) mv_X10_157 (by first | assumption | rfl) (by omega) (by decide) rfl (by decide) dX10_isGuestItem_61 rfl (Nat.le_of_ble_eq_true rfl) rfl (fun z61 M61 P61 h61 => ?_)
                  obtain ⟨rfl, rfl, rfl⟩ := h61
                  rw [hf1]
                  refine G_if_eq (tgt := 76) hC dX10_isGuestItem_64 (by decide) (by omega) (fun c64 => ?_) (fun c64 => ?_)
                  · exact absurd c64 (by omega)
                  · refine G_al0 hC dX10_isGuestItem_67 ?_
                    refine G_bipush hC dX10_isGuestItem_68 (by decide) ?_
                    refine G_callVI hC (c_X10_isSign0 (q := 44) hGr hTa hEa hlen hqa (by omega) (by omega) hsg) mv_X10_153 (by first | assumption | rfl) (by omega) (by decide) rfl (by decide) dX10_isGuestItem_70 rfl (Nat.le_of_ble_eq_true rfl) rfl (fun z70 M70 P70 h70 => ?_)
                    obtain ⟨rfl, rfl, rfl⟩ := h70
                    refine G_if_ne (tgt := 78) hC dX10_isGuestItem_73 (by decide) (by omega) (fun c73 => ?_) (fun c73 => ?_)
                    · exact absurd rfl c73
                    · refine G_iconst hC dX10_isGuestItem_76 ?_
                      exact G_zret hC hQ dX10_isGuestItem_77 (by omega) ⟨_, rfl, rfl, hKa, Or.inl ⟨rfl, hbs hsg⟩⟩
          · have hb := hbad (fun z => by
              rcases z with z | z
              · exact h9 z
              · exact hf1 (hfr.1.mpr (fun j hj => z.2 j (by omega))))
            refine G_al0 hC dX10_isGuestItem_34 ?_
            refine G_callVI hC (c_X10_number1 hGr hT1 hE1 hlen hq1 (by omega) hn) mv_X10_150 (by first | assumption | rfl) (by omega) (by decide) rfl (by decide) dX10_isGuestItem_35 rfl (Nat.le_of_ble_eq_true rfl) rfl (fun z35 M35 P35 h35 => ?_)
            obtain ⟨rfl, rfl, rfl⟩ := h35
            refine G_is2 hC dX10_isGuestItem_38 rfl ?_
            refine G_il2 hC dX10_isGuestItem_39 ?_
            refine G_bipush hC dX10_isGuestItem_40 (by decide) ?_
            refine G_icmp_eq (tgt := 67) hC dX10_isGuestItem_42 (by decide) (by omega) (by omega) (fun c42 => ?_) (fun c42 => ?_)
            · exact absurd c42 (by omega)
            · refine G_il2 hC dX10_isGuestItem_45 ?_
              refine G_iconst hC dX10_isGuestItem_46 ?_
              refine G_al0 hC dX10_isGuestItem_47 ?_
              refine G_getI hC fl_X10_134 (by first | assumption | rfl) (by omega) dX10_isGuestItem_48 ?_
              rw [ha1]
              refine G_iconst hC dX10_isGuestItem_51 ?_
              refine G_isub hC dX10_isGuestItem_52 ?_
              refine G_callSI hC (c_in1 (by unfold i32r; omega) (by unfold i32r; omega) (by unfold i32r; omega) (by omega)) ms_X10_119 (by decide) rfl (by decide) dX10_isGuestItem_53 rfl (Nat.le_of_ble_eq_true rfl) rfl (fun z53 M53 P53 h53 => ?_)
              obtain ⟨rfl, rfl, rfl⟩ := h53
              refine G_if_eq (tgt := 76) hC dX10_isGuestItem_56 (by decide) (by omega) (fun c56 => ?_) (fun c56 => ?_)
              · exact absurd c56 (by omega)
              · refine G_al0 hC dX10_isGuestItem_59 ?_
                refine G_il2 hC dX10_isGuestItem_60 ?_
                refine G_callVI hC (c_X10_isFree (d := d) hGr hQa (by omega)) mv_X10_157 (by first | assumption | rfl) (by omega) (by decide) rfl (by decide) dX10_isGuestItem_61 rfl (Nat.le_of_ble_eq_true rfl) rfl (fun z61 M61 P61 h61 => ?_)
                obtain ⟨rfl, rfl, rfl⟩ := h61
                refine G_if_eq (tgt := 76) hC dX10_isGuestItem_64 (by decide) (by have := hfr.2; omega) (fun c64 => ?_) (fun c64 => ?_)
                · refine G_iconst hC dX10_isGuestItem_76 ?_
                  exact G_zret hC hQ dX10_isGuestItem_77 (by omega) ⟨_, rfl, rfl, hKa, Or.inl ⟨rfl, hb⟩⟩
                · exact absurd (by have := hfr.2; omega) c64
        · have hb := hbad (fun z => by
            rcases z with z | z
            · exact h9 z
            · exact hdl z.1)
          refine G_al0 hC dX10_isGuestItem_34 ?_
          refine G_callVI hC (c_X10_number1 hGr hT1 hE1 hlen hq1 (by omega) hn) mv_X10_150 (by first | assumption | rfl) (by omega) (by decide) rfl (by decide) dX10_isGuestItem_35 rfl (Nat.le_of_ble_eq_true rfl) rfl (fun z35 M35 P35 h35 => ?_)
          obtain ⟨rfl, rfl, rfl⟩ := h35
          refine G_is2 hC dX10_isGuestItem_38 rfl ?_
          refine G_il2 hC dX10_isGuestItem_39 ?_
          refine G_bipush hC dX10_isGuestItem_40 (by decide) ?_
          refine G_icmp_eq (tgt := 67) hC dX10_isGuestItem_42 (by decide) (by omega) (by omega) (fun c42 => ?_) (fun c42 => ?_)
          · exact absurd c42 (by omega)
          · refine G_il2 hC dX10_isGuestItem_45 ?_
            refine G_iconst hC dX10_isGuestItem_46 ?_
            refine G_al0 hC dX10_isGuestItem_47 ?_
            refine G_getI hC fl_X10_134 (by first | assumption | rfl) (by omega) dX10_isGuestItem_48 ?_
            rw [ha1]
            refine G_iconst hC dX10_isGuestItem_51 ?_
            refine G_isub hC dX10_isGuestItem_52 ?_
            refine G_callSI hC (c_in0 (by unfold i32r; omega) (by unfold i32r; omega) (by unfold i32r; omega) (by omega)) ms_X10_119 (by decide) rfl (by decide) dX10_isGuestItem_53 rfl (Nat.le_of_ble_eq_true rfl) rfl (fun z53 M53 P53 h53 => ?_)
            obtain ⟨rfl, rfl, rfl⟩ := h53
            refine G_if_eq (tgt := 76) hC dX10_isGuestItem_56 (by decide) (by omega) (fun c56 => ?_) (fun c56 => ?_)
            · refine G_iconst hC dX10_isGuestItem_76 ?_
              exact G_zret hC hQ dX10_isGuestItem_77 (by omega) ⟨_, rfl, rfl, hKa, Or.inl ⟨rfl, hb⟩⟩
            · exact absurd rfl c56
  have hT1 := hT
  have hE1 := hE
  have hq1 := hp
  have hQ1 := hQ0
  have hK1 : mK M M := mK.refl
  have hi := itmG_B (tx := tx) (len := len) (p := p) (S := Q)
  cases hn : numN tx len p with
  | none =>
    rw [nsp_0 hn] at hi
    refine G_al0 hC dX10_isGuestItem_0 ?_
    refine G_callVI hC (c_X10_number0 hGr hT1 hE1 hlen hq1 (by omega) hn) mv_X10_150 (by first | assumption | rfl) (by omega) (by decide) rfl (by decide) dX10_isGuestItem_1 rfl (Nat.le_of_ble_eq_true rfl) rfl (fun z1 M1 P1 h1 => ?_)
    obtain ⟨rfl, rfl, rfl⟩ := h1
    refine G_is1 hC dX10_isGuestItem_4 rfl ?_
    refine G_il1 hC dX10_isGuestItem_5 ?_
    refine G_iconst hC dX10_isGuestItem_6 ?_
    refine G_iconst hC dX10_isGuestItem_7 ?_
    refine G_callSI hC (c_in0 (by unfold i32r; omega) (by unfold i32r; omega) (by unfold i32r; omega) (by omega)) ms_X10_119 (by decide) rfl (by decide) dX10_isGuestItem_8 rfl (Nat.le_of_ble_eq_true rfl) rfl (fun z8 M8 P8 h8 => ?_)
    obtain ⟨rfl, rfl, rfl⟩ := h8
    refine G_if_eq (tgt := 32) hC dX10_isGuestItem_11 (by decide) (by omega) (fun c11 => ?_) (fun c11 => ?_)
    · refine G_iconst hC dX10_isGuestItem_32 ?_
      exact G_zret hC hQ dX10_isGuestItem_33 (by omega) ⟨_, rfl, rfl, hK1, Or.inl ⟨rfl, hi⟩⟩
    · exact absurd rfl c11
  | some x =>
    obtain ⟨k, q1⟩ := x
    have hTa : TxM (upM M 45 22 q1) tx len := TxM_6 hT1 (by omega)
    have hEa : upM M 45 22 q1 45 21 = (len : Int) := by rw [upM_nej (by omega)]; exact hE1
    have hqa : upM M 45 22 q1 45 22 = (q1 : Int) := upM_self _ _ _ _
    have hQa : MsR (upM M 45 22 q1) Q := MsR_22 hQ1
    have hKa : mK M (upM M 45 22 q1) := mK_22 hK1
    have hle := numN_le hn
    have ha0 := hQa.1.1
    have ha1 := hQa.1.2.1
    have hbs : ¬ (q1 < len ∧ tx q1 = 44) → itmG tx len p Q = none := fun hb => by rw [hi, nsp_2 hn hb]
    have hbad : ¬ (k ≤ 3 ∧ qn Q < 6) → itmG tx len p Q = none := fun hb => by
      rw [hi]
      cases hns : nsp tx len p 44 with
      | none => rfl
      | some y =>
        obtain ⟨y1, y2⟩ := y
        have : y1 = k := by
          unfold nsp at hns; rw [hn] at hns; simp only at hns
          by_cases hz : q1 < len ∧ tx q1 = 44
          · rw [if_pos hz] at hns; cases hns; rfl
          · rw [if_neg hz] at hns; cases hns
        exact gB_bad (fun d w z => hb ⟨by rw [← this]; exact z.2.1, z.1⟩)
    by_cases hk3 : k ≤ 3
    · by_cases hn6 : qn Q = 6
      · refine G_al0 hC dX10_isGuestItem_0 ?_
        refine G_callVI hC (c_X10_number1 hGr hT1 hE1 hlen hq1 (by omega) hn) mv_X10_150 (by first | assumption | rfl) (by omega) (by decide) rfl (by decide) dX10_isGuestItem_1 rfl (Nat.le_of_ble_eq_true rfl) rfl (fun z1 M1 P1 h1 => ?_)
        obtain ⟨rfl, rfl, rfl⟩ := h1
        refine G_is1 hC dX10_isGuestItem_4 rfl ?_
        refine G_il1 hC dX10_isGuestItem_5 ?_
        refine G_iconst hC dX10_isGuestItem_6 ?_
        refine G_iconst hC dX10_isGuestItem_7 ?_
        refine G_callSI hC (c_in1 (by unfold i32r; omega) (by unfold i32r; omega) (by unfold i32r; omega) (by omega)) ms_X10_119 (by decide) rfl (by decide) dX10_isGuestItem_8 rfl (Nat.le_of_ble_eq_true rfl) rfl (fun z8 M8 P8 h8 => ?_)
        obtain ⟨rfl, rfl, rfl⟩ := h8
        refine G_if_eq (tgt := 32) hC dX10_isGuestItem_11 (by decide) (by omega) (fun c11 => ?_) (fun c11 => ?_)
        · exact absurd c11 (by omega)
        · refine G_al0 hC dX10_isGuestItem_14 ?_
          refine G_getI hC fl_X10_109 (by first | assumption | rfl) (by omega) dX10_isGuestItem_15 ?_
          rw [ha0]
          refine G_bipush hC dX10_isGuestItem_18 (by decide) ?_
          refine G_icmp_eq (tgt := 32) hC dX10_isGuestItem_20 (by decide) (by omega) (by omega) (fun c20 => ?_) (fun c20 => ?_)
          · refine G_iconst hC dX10_isGuestItem_32 ?_
            exact G_zret hC hQ dX10_isGuestItem_33 (by omega) ⟨_, rfl, rfl, hKa, Or.inl ⟨rfl, hbad (fun z => by omega)⟩⟩
          · exact absurd (by omega) c20
      · by_cases hsg : q1 < len ∧ tx q1 = 44
        · rw [nsp_1 hn hsg] at hi
          have eM : upM (upM M 45 22 q1) 45 22 (q1 + 1) = upM M 45 22 ((q1 + 1 : Nat) : Int) := by
            funext x y; unfold upM
            by_cases z : x = 45 ∧ y = 22
            · rw [if_pos z, if_pos z]; omega
            · rw [if_neg z, if_neg z, if_neg z]
          have hTb : TxM (upM M 45 22 ((q1 + 1 : Nat) : Int)) tx len := TxM_6 hT1 (by omega)
          have hEb : upM M 45 22 ((q1 + 1 : Nat) : Int) 45 21 = (len : Int) := by rw [upM_nej (by omega)]; exact hE1
          have hqb : upM M 45 22 ((q1 + 1 : Nat) : Int) 45 22 = ((q1 + 1 : Nat) : Int) := upM_self _ _ _ _
          have hQb : MsR (upM M 45 22 ((q1 + 1 : Nat) : Int)) Q := MsR_22 hQ1
          have hKb : mK M (upM M 45 22 ((q1 + 1 : Nat) : Int)) := mK_22 hK1
          refine G_al0 hC dX10_isGuestItem_0 ?_
          refine G_callVI hC (c_X10_number1 hGr hT1 hE1 hlen hq1 (by omega) hn) mv_X10_150 (by first | assumption | rfl) (by omega) (by decide) rfl (by decide) dX10_isGuestItem_1 rfl (Nat.le_of_ble_eq_true rfl) rfl (fun z1 M1 P1 h1 => ?_)
          obtain ⟨rfl, rfl, rfl⟩ := h1
          refine G_is1 hC dX10_isGuestItem_4 rfl ?_
          refine G_il1 hC dX10_isGuestItem_5 ?_
          refine G_iconst hC dX10_isGuestItem_6 ?_
          refine G_iconst hC dX10_isGuestItem_7 ?_
          refine G_callSI hC (c_in1 (by unfold i32r; omega) (by unfold i32r; omega) (by unfold i32r; omega) (by omega)) ms_X10_119 (by decide) rfl (by decide) dX10_isGuestItem_8 rfl (Nat.le_of_ble_eq_true rfl) rfl (fun z8 M8 P8 h8 => ?_)
          obtain ⟨rfl, rfl, rfl⟩ := h8
          refine G_if_eq (tgt := 32) hC dX10_isGuestItem_11 (by decide) (by omega) (fun c11 => ?_) (fun c11 => ?_)
          · exact absurd c11 (by omega)
          · refine G_al0 hC dX10_isGuestItem_14 ?_
            refine G_getI hC fl_X10_109 (by first | assumption | rfl) (by omega) dX10_isGuestItem_15 ?_
            rw [ha0]
            refine G_bipush hC dX10_isGuestItem_18 (by decide) ?_
            refine G_icmp_eq (tgt := 32) hC dX10_isGuestItem_20 (by decide) (by omega) (by omega) (fun c20 => ?_) (fun c20 => ?_)
            · exact absurd c20 (by omega)
            · refine G_al0 hC dX10_isGuestItem_23 ?_
              refine G_bipush hC dX10_isGuestItem_24 (by decide) ?_
              refine G_callVI hC (c_X10_isSign1 (q := 44) hGr hTa hEa hlen hqa (by omega) hsg) mv_X10_153 (by first | assumption | rfl) (by omega) (by decide) rfl (by decide) dX10_isGuestItem_26 rfl (Nat.le_of_ble_eq_true rfl) rfl (fun z26 M26 P26 h26 => ?_)
              obtain ⟨rfl, rfl, rfl⟩ := h26
              refine G_if_ne (tgt := 34) hC dX10_isGuestItem_29 (by decide) (by omega) (fun c29 => ?_) (fun c29 => ?_)
              · rw [eM]
                exact segB k (q1 + 1) _ _ _ _ hTb hEb hqb (by omega) hQb hKb hk3 (by omega) (by omega) (by omega) hi
              · exact absurd c29 (by omega)
        · refine G_al0 hC dX10_isGuestItem_0 ?_
          refine G_callVI hC (c_X10_number1 hGr hT1 hE1 hlen hq1 (by omega) hn) mv_X10_150 (by first | assumption | rfl) (by omega) (by decide) rfl (by decide) dX10_isGuestItem_1 rfl (Nat.le_of_ble_eq_true rfl) rfl (fun z1 M1 P1 h1 => ?_)
          obtain ⟨rfl, rfl, rfl⟩ := h1
          refine G_is1 hC dX10_isGuestItem_4 rfl ?_
          refine G_il1 hC dX10_isGuestItem_5 ?_
          refine G_iconst hC dX10_isGuestItem_6 ?_
          refine G_iconst hC dX10_isGuestItem_7 ?_
          refine G_callSI hC (c_in1 (by unfold i32r; omega) (by unfold i32r; omega) (by unfold i32r; omega) (by omega)) ms_X10_119 (by decide) rfl (by decide) dX10_isGuestItem_8 rfl (Nat.le_of_ble_eq_true rfl) rfl (fun z8 M8 P8 h8 => ?_)
          obtain ⟨rfl, rfl, rfl⟩ := h8
          refine G_if_eq (tgt := 32) hC dX10_isGuestItem_11 (by decide) (by omega) (fun c11 => ?_) (fun c11 => ?_)
          · exact absurd c11 (by omega)
          · refine G_al0 hC dX10_isGuestItem_14 ?_
            refine G_getI hC fl_X10_109 (by first | assumption | rfl) (by omega) dX10_isGuestItem_15 ?_
            rw [ha0]
            refine G_bipush hC dX10_isGuestItem_18 (by decide) ?_
            refine G_icmp_eq (tgt := 32) hC dX10_isGuestItem_20 (by decide) (by omega) (by omega) (fun c20 => ?_) (fun c20 => ?_)
            · exact absurd c20 (by omega)
            · refine G_al0 hC dX10_isGuestItem_23 ?_
              refine G_bipush hC dX10_isGuestItem_24 (by decide) ?_
              refine G_callVI hC (c_X10_isSign0 (q := 44) hGr hTa hEa hlen hqa (by omega) (by omega) hsg) mv_X10_153 (by first | assumption | rfl) (by omega) (by decide) rfl (by decide) dX10_isGuestItem_26 rfl (Nat.le_of_ble_eq_true rfl) rfl (fun z26 M26 P26 h26 => ?_)
              obtain ⟨rfl, rfl, rfl⟩ := h26
              refine G_if_ne (tgt := 34) hC dX10_isGuestItem_29 (by decide) (by omega) (fun c29 => ?_) (fun c29 => ?_)
              · exact absurd rfl c29
              · refine G_iconst hC dX10_isGuestItem_32 ?_
                exact G_zret hC hQ dX10_isGuestItem_33 (by omega) ⟨_, rfl, rfl, hKa, Or.inl ⟨rfl, hbs hsg⟩⟩
    · refine G_al0 hC dX10_isGuestItem_0 ?_
      refine G_callVI hC (c_X10_number1 hGr hT1 hE1 hlen hq1 (by omega) hn) mv_X10_150 (by first | assumption | rfl) (by omega) (by decide) rfl (by decide) dX10_isGuestItem_1 rfl (Nat.le_of_ble_eq_true rfl) rfl (fun z1 M1 P1 h1 => ?_)
      obtain ⟨rfl, rfl, rfl⟩ := h1
      refine G_is1 hC dX10_isGuestItem_4 rfl ?_
      refine G_il1 hC dX10_isGuestItem_5 ?_
      refine G_iconst hC dX10_isGuestItem_6 ?_
      refine G_iconst hC dX10_isGuestItem_7 ?_
      refine G_callSI hC (c_in0 (by unfold i32r; omega) (by unfold i32r; omega) (by unfold i32r; omega) (by omega)) ms_X10_119 (by decide) rfl (by decide) dX10_isGuestItem_8 rfl (Nat.le_of_ble_eq_true rfl) rfl (fun z8 M8 P8 h8 => ?_)
      obtain ⟨rfl, rfl, rfl⟩ := h8
      refine G_if_eq (tgt := 32) hC dX10_isGuestItem_11 (by decide) (by omega) (fun c11 => ?_) (fun c11 => ?_)
      · refine G_iconst hC dX10_isGuestItem_32 ?_
        exact G_zret hC hQ dX10_isGuestItem_33 (by omega) ⟨_, rfl, rfl, hKa, Or.inl ⟨rfl, hbad (fun z => hk3 z.1)⟩⟩
      · exact absurd rfl c11
