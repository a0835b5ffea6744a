/-! which pairs come to be -/
def ent (bl : List BE) (k : Nat) : BE := bl[k]?.getD (0, 0, 0)
def metN (so : Nat) (bl : List BE) : Nat → Nat
  | 0 => 0
  | k + 1 => metN so bl k ||| (so &&& encH (hbit (dgf (ent bl k).1)))
theorem metN_lt {so : Nat} {bl : List BE} (h : so < 2 ^ 36) : ∀ k, metN so bl k < 2 ^ 36
  | 0 => by simp [metN]
  | k + 1 => Nat.or_lt_two_pow (metN_lt h k) (and_lt h)
theorem metN_congr {so : Nat} {bl bl' : List BE} : ∀ k, (∀ i, i < k → ent bl' i = ent bl i) → metN so bl' k = metN so bl k
  | 0, _ => rfl
  | k + 1, h => by unfold metN; rw [metN_congr k (fun i hi => h i (by omega)), h k (by omega)]
theorem ent_some {bl : List BE} {k : Nat} {e : BE} (h : bl[k]? = some e) : ent bl k = e := by unfold ent; rw [h]; rfl
def prQ (M : Mem) (P : PMem) (se mv tb oo len N : Nat) (T : TB) (lq : Nat → Nat) (bl : List BE) (o so : Nat) : Int → Mem → PMem → Prop := fun r M' P' => P = P' ∧ ∃ m k : Nat, SeM M M' se mv tb oo len N T lq (bl, o) m ∧ r = (metN so (bXn T m (bl, o)).1 k : Int) ∧ (∀ k', k' < k → ∃ x : BE, (bXn T m (bl, o)).1[k']? = some x) ∧ (k = 720 ∨ metN so (bXn T m (bl, o)).1 k = so ∨ (stopB k 1000000 (bXn T m (bl, o)).1 (bXn T m (bl, o)).2 ∧ ∀ e : BE, (bXn T m (bl, o)).1[k]? = some e → (1000000 : Int) ≤ (e.2.1 : Int)))
set_option maxHeartbeats 4000000 in
set_option maxRecDepth 100000 in
theorem c_X5_pairsReached {l : Launch} {se mv tb oo len N o0 : Nat} {T : TB} {lq : Nat → Nat} {bl : List BE} {so : Nat} {M : Mem} {P : PMem} (hGr : Gr P) (hse : isSe se mv tb oo len) (hS : SI M mv tb len T N lq) (hB : SeB M se oo N lq bl o0) (hso : so < 2 ^ 36) (hLO : ∀ l, l < N → lieOK (dgf (lq l))) : CtL l yX5_pairsReached cX5_pairsReached 7 (some .long) 5 138 45 [vR se, vL so] M P (prQ M P se mv tb oo len N T lq bl o0 so) := by
  refine Ct_of (own := RX5) (L := [vR se, vL so, vX 1, vX 1, vX 1, vX 1, vX 1]) (by decide) rfl rfl (Nat.le_of_ble_eq_true rfl) (fun X Y hl hC hQ => ?_)
  obtain ⟨ss0, ss1, ss2, ss3, sb0, sb2, sp0, sp2, sp3, sp4⟩ := isSe_all hGr hse
  obtain ⟨sn1, sn2, sn3, sn4, sn5, sn6⟩ := hse.ne
  have hmv := hse.mv
  obtain ⟨vs0, vs1, vst, vT, vp0, vp1, vp2, vb1, vbt, vlen, vb14⟩ := isMv_all hGr hmv
  have hlp : ∀ (c k : Nat) (kv wv : Int) (M1 : Mem) (m : Nat) (x6 : AV), k + c = 720 → kv = (k : Int) → SeM M M1 se mv tb oo len N T lq (bl, o0) m → (∀ k', k' < k → ∃ x : BE, (bXn T m (bl, o0)).1[k']? = some x) → wv = (metN so (bXn T m (bl, o0)).1 k : Int) → G X Y 5 [vR se, vL so, vX 1, vL wv, vX 1, vI kv, x6] [] M1 P := by
    intro c
    induction c with
    | zero =>
      intro k kv wv M1 m x6 hk e1 hM1 hl e2
      subst e1; subst e2
      refine G_il5 hC dX5_pairsReached_5 ?_
      refine G_sipush hC dX5_pairsReached_7 (by decide) ?_
      refine G_icmp_ge (tgt := 65) hC dX5_pairsReached_10 (by decide) (by omega) (by omega) (fun c10 => ?_) (fun c10 => ?_)
      · refine G_ll3 hC dX5_pairsReached_65 ?_
        exact G_lret hC hQ dX5_pairsReached_66 ⟨_, rfl, rfl, m, k, hM1, rfl, hl, Or.inl (by omega)⟩
      · exact absurd c10 (by omega)
    | succ c ih =>
      intro k kv wv M1 m x6 hk e1 hM1 hl e2
      subst e1; subst e2
      obtain ⟨q1, q2, q3, q4⟩ := id hM1
      have hmt := metN_lt (bl := (bXn T m (bl, o0)).1) hso k
      refine G_il5 hC dX5_pairsReached_5 ?_
      refine G_sipush hC dX5_pairsReached_7 (by decide) ?_
      refine G_icmp_ge (tgt := 65) hC dX5_pairsReached_10 (by decide) (by omega) (by omega) (fun c10 => ?_) (fun c10 => ?_)
      · exact absurd c10 (by omega)
      · refine G_ll3 hC dX5_pairsReached_13 ?_
        refine G_ll1 hC dX5_pairsReached_14 ?_
        refine G_lcmp hC dX5_pairsReached_15 (by omega) (by omega) ?_
        refine G_if_eq (tgt := 65) hC dX5_pairsReached_16 (by decide) (by unfold zcmp; split <;> first | omega | (split <;> omega)) (fun c16 => ?_) (fun c16 => ?_)
        · refine G_ll3 hC dX5_pairsReached_65 ?_
          exact G_lret hC hQ dX5_pairsReached_66 ⟨_, rfl, rfl, m, k, hM1, rfl, hl, Or.inr (Or.inl (by unfold zcmp at c16; split at c16 <;> first | omega | (split at c16 <;> omega)))⟩
        · refine G_al0 hC dX5_pairsReached_19 ?_
          refine G_il5 hC dX5_pairsReached_20 ?_
          refine G_ldc (z := 1000000) hC kc_X5_89 (by decide) dX5_pairsReached_22 ?_
          refine G_callVI hC (c_X5_reachedAs hGr hse q2 q1 (by omega) (by omega)) mv_X5_90 (by first | assumption | rfl) (by omega) (by decide) rfl (by decide) dX5_pairsReached_24 rfl (Nat.le_of_ble_eq_true rfl) rfl (fun z24 M24 P24 h24 => ?_)
          skip
          obtain ⟨rfl, m2, r1, r2, r3, r4, r5, r6⟩ := h24
          rw [bXn_add] at r1 r5 r6
          have hM2 : SeM M M24 se mv tb oo len N T lq (bl, o0) (m + m2) := ⟨r1, r2, q3.trans r3, by rw [r4]; exact q4⟩
          have hl2 : ∀ k', k' < k → ∃ x : BE, (bXn T (m + m2) (bl, o0)).1[k']? = some x := fun k' hk' => by
            obtain ⟨x, x1⟩ := hl k' hk'
            rw [← bXn_add]
            exact ⟨x, bXn_mem m2 _ x1⟩
          have hmc : metN so (bXn T m (bl, o0)).1 k = metN so (bXn T (m + m2) (bl, o0)).1 k := (metN_congr k (fun i hi => by
            obtain ⟨x, x1⟩ := hl i hi
            rw [ent_some x1, ← bXn_add, ent_some (bXn_mem m2 _ x1)])).symm
          have hN7 := r2.2.1.2.2.1
          rcases r6 with ⟨e, lz, s1, s2, s3, s4, s5⟩ | ⟨s1, s2⟩
          · subst s5
            have hlt := r2.2.1.lt s3
            have hM13 : M24 13 lz = ((enc (dgf e.1) : Nat) : Int) := by rw [(r2.2.1.2.2.2.1 lz s3).1, s4, enc_dgf (by rw [← s4]; exact hlt)]
            have hok : lieOK (dgf e.1) := by rw [← s4]; exact hLO lz s3
            have hel := encH_lt (hbit_lo hok)
            refine G_is6 hC dX5_pairsReached_27 rfl ?_
            refine G_il6 hC dX5_pairsReached_29 ?_
            refine G_sipush hC dX5_pairsReached_31 (by decide) ?_
            refine G_icmp_ne (tgt := 39) hC dX5_pairsReached_34 (by decide) (by omega) (by omega) (fun c34 => ?_) (fun c34 => ?_)
            · refine G_ll3 hC dX5_pairsReached_39 ?_
              refine G_ll1 hC dX5_pairsReached_40 ?_
              refine G_al0 hC dX5_pairsReached_41 ?_
              refine G_getR hC fl_X5_25 (by first | assumption | rfl) (by omega) (by first | assumption | exact hGr _ _ _ rfl) dX5_pairsReached_42 ?_
              refine G_getR hC fl_X5_93 (by first | assumption | rfl) (by omega) (by first | assumption | exact hGr _ _ _ rfl) dX5_pairsReached_45 ?_
              refine G_il6 hC dX5_pairsReached_48 ?_
              refine G_callVI hC (c_X0_lieOf hGr (by omega)) mv_X5_97 (by first | assumption | rfl) (by omega) (by decide) rfl (by decide) dX5_pairsReached_50 rfl (Nat.le_of_ble_eq_true rfl) rfl (fun z50 M50 P50 h50 => ?_)
              obtain ⟨rfl, rfl, rfl⟩ := h50
              rw [hM13]
              refine G_callSL hC (c_X9_pairsOf hok) ms_X5_109 (by decide) rfl (by decide) dX5_pairsReached_53 rfl (Nat.le_of_ble_eq_true rfl) rfl (fun z53 M53 P53 h53 => ?_)
              obtain ⟨rfl, rfl, rfl⟩ := h53
              refine G_land hC dX5_pairsReached_56 ?_
              refine G_lor hC dX5_pairsReached_57 ?_
              rw [lAnd_n (by omega) (by omega), lOr_n (by omega) (by have := and_lt (b := encH (hbit (dgf e.1))) hso; omega)]
              refine G_ls3 hC dX5_pairsReached_58 rfl ?_
              refine G_inc5 hC dX5_pairsReached_59 rfl ?_
              refine G_goto (tgt := 5) hC dX5_pairsReached_62 (by decide) ?_
              exact ih (k + 1) _ _ M24 (m + m2) _ (by omega) (by omega) hM2 (fun k' hk' => by
                rcases Nat.lt_or_ge k' k with z | z
                · exact hl2 k' z
                · have : k' = k := by omega
                  subst this
                  exact ⟨e, s1⟩) (by rw [hmc]; show _ = ((metN so (bXn T (m + m2) (bl, o0)).1 k ||| (so &&& encH (hbit (dgf (ent (bXn T (m + m2) (bl, o0)).1 k).1))) : Nat) : Int); rw [ent_some s1])
            · exact absurd c34 (by omega)
          · subst s1
            refine G_is6 hC dX5_pairsReached_27 rfl ?_
            refine G_il6 hC dX5_pairsReached_29 ?_
            refine G_sipush hC dX5_pairsReached_31 (by decide) ?_
            refine G_icmp_ne (tgt := 39) hC dX5_pairsReached_34 (by decide) (by omega) (by omega) (fun c34 => ?_) (fun c34 => ?_)
            · exact absurd rfl c34
            · refine G_ll3 hC dX5_pairsReached_37 ?_
              exact G_lret hC hQ dX5_pairsReached_38 ⟨_, rfl, rfl, m + m2, k, hM2, by rw [hmc], hl2, Or.inr (Or.inr ⟨r5, s2⟩)⟩
  refine G_lconst (z := 0) hC dX5_pairsReached_0 (by decide) ?_
  refine G_ls3 hC dX5_pairsReached_1 rfl ?_
  refine G_iconst hC dX5_pairsReached_2 ?_
  refine G_is5 hC dX5_pairsReached_3 rfl ?_
  exact hlp 720 0 _ _ M 0 _ (by omega) rfl ⟨hB, hS, eqx.refl, rfl⟩ (fun k' hk' => by omega) rfl
/-- an asking leads elsewhere -/
def chg (M : Mem) (T : TB) (q k : Nat) : Prop := ∃ i j, i < tn T ∧ j < tn T ∧ mvN M T q i j ≠ 1023 ∧ mvN M T q i j ≠ k
def caQ (M : Mem) (P : PMem) (mv tb len N : Nat) (T : TB) (lq : Nat → Nat) (k : Nat) : Int → Mem → PMem → Prop := fun r M' P' => P = P' ∧ SI M' mv tb len T N lq ∧ eqx (fun a => a = mv + 1) M M' ∧ ((r = 1 ∧ chg M T (lq k) k) ∨ (r = 0 ∧ ¬ chg M T (lq k) k))
set_option maxHeartbeats 4000000 in
set_option maxRecDepth 100000 in
theorem c_X3_changeAnything {l : Launch} {mv tb len N k : Nat} {T : TB} {lq : Nat → Nat} {M : Mem} {P : PMem} (hGr : Gr P) (hmv : isMv mv tb len) (hS : SI M mv tb len T N lq) (hk : k < N) : CtI l yX3_changeAnything cX3_changeAnything 7 (some .boolean) 4 108 45 [vR mv, vI k] M P (caQ M P mv tb len N T lq k) := by
  refine Ct_of (own := RX3) (L := [vR mv, vI k, vX 1, vX 1, vX 1, vX 1, vX 1]) (by decide) rfl rfl (Nat.le_of_ble_eq_true rfl) (fun X Y hl hC hQ => ?_)
  obtain ⟨vs0, vs1, vst, vT, vp0, vp1, vp2, vb1, vbt, vlen, vb14⟩ := isMv_all hGr hmv
  have hR := hS.1
  obtain ⟨hR0, hR2, hR6, hRr, hRr1, hRk, hRw⟩ := id hR
  have hN7 := hS.2.1.2.2.1
  have hgR : ∀ M1 : Mem, eqx (fun a => a = mv + 1) M M1 → M1 tb 0 = (tn T : Int) := fun M1 h => by rw [h tb (by unfold isMv at hmv; omega)]; exact hR0
  have hmvc : ∀ M1 : Mem, eqx (fun a => a = mv + 1) M M1 → ∀ i j, mvN M1 T (lq k) i j = mvN M T (lq k) i j := fun M1 h i j => mvN_congr (h 13 (by omega)) (h 14 (by omega))
  have hlJ : ∀ (i : Nat) (M1 : Mem), i < tn T → SI M1 mv tb len T N lq → eqx (fun a => a = mv + 1) M M1 → (∀ i' j', i' < i → j' < tn T → mvN M T (lq k) i' j' = 1023 ∨ mvN M T (lq k) i' j' = k) → ((∀ j', j' < tn T → mvN M T (lq k) i j' = 1023 ∨ mvN M T (lq k) i j' = k) → ∀ (x3 x5 x6 : AV), G X Y 65 [vR mv, vI k, vI i, x3, vX 1, x5, x6] [] M1 P) → ∀ (c j : Nat) (jv rv : Int) (x6 : AV), j + c = tn T → jv = (j : Int) → rv = (rrC (fun j => mvN M1 T (lq k) i j) 6 : Int) → (∀ j', j' < j → mvN M T (lq k) i j' = 1023 ∨ mvN M T (lq k) i j' = k) → G X Y 23 [vR mv, vI k, vI i, vL rv, vX 1, vI jv, x6] [] M1 P := by
    intro i M1 hi hS1 hx1 hpre hnext c
    have hg := hgR M1 hx1
    have hmc := hmvc M1 hx1
    have hto : ∀ j, (fun j => mvN M1 T (lq k) i j) j ≤ 1023 := fun j => mvN_le hS1.2.1.1
    induction c with
    | zero =>
      intro j jv rv x6 hj e1 e2 hl
      subst e1; subst e2
      refine G_il5 hC dX3_changeAnything_23 ?_
      refine G_al0 hC dX3_changeAnything_25 ?_
      refine G_getR hC fl_X3_9 (by first | assumption | rfl) (by omega) (by first | assumption | exact hGr _ _ _ rfl) dX3_changeAnything_26 ?_
      refine G_getI hC fl_X3_56 (by first | assumption | rfl) (by omega) dX3_changeAnything_29 ?_
      refine G_icmp_ge (tgt := 65) hC dX3_changeAnything_32 (by decide) (by omega) (by omega) (fun c32 => ?_) (fun c32 => ?_)
      · exact hnext (fun j' hj' => hl j' (by omega)) _ _ _
      · exact absurd c32 (by omega)
    | succ c ih =>
      intro j jv rv x6 hj e1 e2 hl
      subst e1; subst e2
      have htj : mvN M1 T (lq k) i j ≤ 1023 := hto j
      have hmj := hmc i j
      refine G_il5 hC dX3_changeAnything_23 ?_
      refine G_al0 hC dX3_changeAnything_25 ?_
      refine G_getR hC fl_X3_9 (by first | assumption | rfl) (by omega) (by first | assumption | exact hGr _ _ _ rfl) dX3_changeAnything_26 ?_
      refine G_getI hC fl_X3_56 (by first | assumption | rfl) (by omega) dX3_changeAnything_29 ?_
      refine G_icmp_ge (tgt := 65) hC dX3_changeAnything_32 (by decide) (by omega) (by omega) (fun c32 => ?_) (fun c32 => ?_)
      · exact absurd c32 (by omega)
      · refine G_ll3 hC dX3_changeAnything_35 ?_
        refine G_il5 hC dX3_changeAnything_36 ?_
        refine G_callSI hC (c_X3_target hto (by omega)) ms_X3_64 (by decide) rfl (by decide) dX3_changeAnything_38 rfl (Nat.le_of_ble_eq_true rfl) rfl (fun z38 M38 P38 h38 => ?_)
        obtain ⟨rfl, rfl, rfl⟩ := h38
        refine G_is6 hC dX3_changeAnything_41 rfl ?_
        refine G_il6 hC dX3_changeAnything_43 ?_
        refine G_sipush hC dX3_changeAnything_45 (by decide) ?_
        refine G_icmp_eq (tgt := 59) hC dX3_changeAnything_48 (by decide) (by omega) (by omega) (fun c48 => ?_) (fun c48 => ?_)
        · refine G_inc5 hC dX3_changeAnything_59 rfl ?_
          refine G_goto (tgt := 23) hC dX3_changeAnything_62 (by decide) ?_
          exact ih (j + 1) _ _ _ (by omega) (by omega) rfl (fun j' hj' => by
            rcases Nat.lt_or_ge j' j with z | z
            · exact hl j' z
            · have : j' = j := by omega
              subst this
              omega)
        · refine G_il6 hC dX3_changeAnything_51 ?_
          refine G_il1 hC dX3_changeAnything_53 ?_
          refine G_icmp_eq (tgt := 59) hC dX3_changeAnything_54 (by decide) (by omega) (by omega) (fun c54 => ?_) (fun c54 => ?_)
          · refine G_inc5 hC dX3_changeAnything_59 rfl ?_
            refine G_goto (tgt := 23) hC dX3_changeAnything_62 (by decide) ?_
            exact ih (j + 1) _ _ _ (by omega) (by omega) rfl (fun j' hj' => by
              rcases Nat.lt_or_ge j' j with z | z
              · exact hl j' z
              · have : j' = j := by omega
                subst this
                omega)
          · refine G_iconst hC dX3_changeAnything_57 ?_
            exact G_zret hC hQ dX3_changeAnything_58 (by omega) ⟨_, rfl, rfl, hS1, hx1, Or.inl ⟨rfl, i, j, by omega, by omega, by omega, by omega⟩⟩
  have hlI : ∀ (c i : Nat) (iv : Int) (M1 : Mem) (x3 x4 x5 x6 : AV), i + c = tn T → iv = (i : Int) → SI M1 mv tb len T N lq → eqx (fun a => a = mv + 1) M M1 → (∀ i' j', i' < i → j' < tn T → mvN M T (lq k) i' j' = 1023 ∨ mvN M T (lq k) i' j' = k) → G X Y 2 [vR mv, vI k, vI iv, x3, x4, x5, x6] [] M1 P := by
    intro c
    induction c with
    | zero =>
      intro i iv M1 x3 x4 x5 x6 hi e1 hS1 hx1 hl
      subst e1
      have hg := hgR M1 hx1
      refine G_il2 hC dX3_changeAnything_2 ?_
      refine G_al0 hC dX3_changeAnything_3 ?_
      refine G_getR hC fl_X3_9 (by first | assumption | rfl) (by omega) (by first | assumption | exact hGr _ _ _ rfl) dX3_changeAnything_4 ?_
      refine G_getI hC fl_X3_56 (by first | assumption | rfl) (by omega) dX3_changeAnything_7 ?_
      refine G_icmp_ge (tgt := 71) hC dX3_changeAnything_10 (by decide) (by omega) (by omega) (fun c10 => ?_) (fun c10 => ?_)
      · refine G_iconst hC dX3_changeAnything_71 ?_
        exact G_zret hC hQ dX3_changeAnything_72 (by omega) ⟨_, rfl, rfl, hS1, hx1, Or.inr ⟨rfl, fun q => by
  obtain ⟨i', j', z1, z2, z3, z4⟩ := q
  rcases hl i' j' (by omega) z2 with z | z
  · exact z3 z
  · exact z4 z⟩⟩
      · exact absurd c10 (by omega)
    | succ c ih =>
      intro i iv M1 x3 x4 x5 x6 hi e1 hS1 hx1 hl
      subst e1
      have hg := hgR M1 hx1
      obtain ⟨hS2, hx2⟩ := SI_ro (k := k) (i := i) hmv hS1 (by omega) (by omega)
      have hq2 : ∀ a, a ≠ mv + 1 → ∀ b, roM M1 mv len T k i a b = M1 a b := fun a h => hx2 a h
      have hlk : (M1 13 k).toNat = lq k := by rw [(hS1.2.1.2.2.2.1 k hk).1]; omega
      refine G_il2 hC dX3_changeAnything_2 ?_
      refine G_al0 hC dX3_changeAnything_3 ?_
      refine G_getR hC fl_X3_9 (by first | assumption | rfl) (by omega) (by first | assumption | exact hGr _ _ _ rfl) dX3_changeAnything_4 ?_
      refine G_getI hC fl_X3_56 (by first | assumption | rfl) (by omega) dX3_changeAnything_7 ?_
      refine G_icmp_ge (tgt := 71) hC dX3_changeAnything_10 (by decide) (by omega) (by omega) (fun c10 => ?_) (fun c10 => ?_)
      · exact absurd c10 (by omega)
      · refine G_al0 hC dX3_changeAnything_13 ?_
        refine G_il1 hC dX3_changeAnything_14 ?_
        refine G_il2 hC dX3_changeAnything_15 ?_
        refine G_callVL hC (c_X3_rowOf hGr hmv hS1.1 hS1.2.1.1 (by omega) (by omega) (hS1.2.2.1 k i (by omega) (by omega))) mv_X3_60 (by first | assumption | rfl) (by omega) (by decide) rfl (by decide) dX3_changeAnything_16 rfl (Nat.le_of_ble_eq_true rfl) rfl (fun z16 M16 P16 h16 => ?_)
        obtain ⟨rfl, rfl, rfl⟩ := h16
        refine G_ls3 hC dX3_changeAnything_19 rfl ?_
        refine G_iconst hC dX3_changeAnything_20 ?_
        refine G_is5 hC dX3_changeAnything_21 rfl ?_
        exact hlJ i _ (by omega) hS2 (hx1.trans hx2) hl (fun hall x3 x5 x6 => by
          refine G_inc2 hC dX3_changeAnything_65 rfl ?_
          refine G_goto (tgt := 2) hC dX3_changeAnything_68 (by decide) ?_
          exact ih (i + 1) _ _ _ _ _ _ (by omega) (by omega) hS2 (hx1.trans hx2) (fun i' j' h1 h2 => by
            rcases Nat.lt_or_ge i' i with z | z
            · exact hl i' j' z h2
            · have : i' = i := by omega
              subst this
              exact hall j' h2)) (tn T) 0 _ _ _ (by omega) rfl (by rw [hlk]; simp only [mvN_congr (hq2 13 (by omega)) (hq2 14 (by omega))]) (fun j' hj' => by omega)
  refine G_iconst hC dX3_changeAnything_0 ?_
  refine G_is2 hC dX3_changeAnything_1 rfl ?_
  exact hlI (tn T) 0 _ M _ _ _ _ (by omega) rfl hS eqx.refl (fun i' j' h => by omega)
def bc1 (x : Int) : Int := x - lAnd (lUsh x 1) 6148914691236517205
def bc2 (x : Int) : Int := lAnd x 3689348814741910323 + lAnd (lUsh x 2) 3689348814741910323
def bc3 (x : Int) : Int := lAnd (x + lUsh x 4) 1085102592571150095
def bc4 (x : Int) : Int := x + lUsh x 8
def bc5 (x : Int) : Int := x + lUsh x 16
def bc6 (x : Int) : Int := x + lUsh x 32
def bcZ (x : Int) : Int := bAnd (bc6 (bc5 (bc4 (bc3 (bc2 (bc1 x)))))) 127
set_option maxHeartbeats 4000000 in
set_option maxRecDepth 100000 in
theorem c_bitCount {l : Launch} {x : Int} {M : Mem} {P : PMem} : CtI l yJ13_bitCount_95d88 cJ13_bitCount_95d88 2 (some .int) 0 0 0 [vL x] M P (pI (bcZ x) M P) := by
  refine Ct_of (own := RJ13) (L := [vL x, vX 1]) (by decide) rfl rfl (Nat.le_of_ble_eq_true rfl) (fun X Y hl hC hQ => ?_)
  refine G_ll0 hC dJ13_bitCount_95d88_0 ?_
  refine G_ll0 hC dJ13_bitCount_95d88_1 ?_
  refine G_iconst hC dJ13_bitCount_95d88_2 ?_
  refine G_lushr hC dJ13_bitCount_95d88_3 ?_
  refine G_ldc2 (z := 6148914691236517205) hC kl_J13_314 (by decide) dJ13_bitCount_95d88_4 ?_
  refine G_land hC dJ13_bitCount_95d88_7 ?_
  refine G_lsub hC dJ13_bitCount_95d88_8 ?_
  refine G_ls0 hC dJ13_bitCount_95d88_9 ?_
  refine G_ll0 hC dJ13_bitCount_95d88_10 ?_
  refine G_ldc2 (z := 3689348814741910323) hC kl_J13_316 (by decide) dJ13_bitCount_95d88_11 ?_
  refine G_land hC dJ13_bitCount_95d88_14 ?_
  refine G_ll0 hC dJ13_bitCount_95d88_15 ?_
  refine G_iconst hC dJ13_bitCount_95d88_16 ?_
  refine G_lushr hC dJ13_bitCount_95d88_17 ?_
  refine G_ldc2 (z := 3689348814741910323) hC kl_J13_316 (by decide) dJ13_bitCount_95d88_18 ?_
  refine G_land hC dJ13_bitCount_95d88_21 ?_
  refine G_ladd hC dJ13_bitCount_95d88_22 ?_
  refine G_ls0 hC dJ13_bitCount_95d88_23 ?_
  refine G_ll0 hC dJ13_bitCount_95d88_24 ?_
  refine G_ll0 hC dJ13_bitCount_95d88_25 ?_
  refine G_iconst hC dJ13_bitCount_95d88_26 ?_
  refine G_lushr hC dJ13_bitCount_95d88_27 ?_
  refine G_ladd hC dJ13_bitCount_95d88_28 ?_
  refine G_ldc2 (z := 1085102592571150095) hC kl_J13_318 (by decide) dJ13_bitCount_95d88_29 ?_
  refine G_land hC dJ13_bitCount_95d88_32 ?_
  refine G_ls0 hC dJ13_bitCount_95d88_33 ?_
  refine G_ll0 hC dJ13_bitCount_95d88_34 ?_
  refine G_ll0 hC dJ13_bitCount_95d88_35 ?_
  refine G_bipush hC dJ13_bitCount_95d88_36 (by decide) ?_
  refine G_lushr hC dJ13_bitCount_95d88_38 ?_
  refine G_ladd hC dJ13_bitCount_95d88_39 ?_
  refine G_ls0 hC dJ13_bitCount_95d88_40 ?_
  refine G_ll0 hC dJ13_bitCount_95d88_41 ?_
  refine G_ll0 hC dJ13_bitCount_95d88_42 ?_
  refine G_bipush hC dJ13_bitCount_95d88_43 (by decide) ?_
  refine G_lushr hC dJ13_bitCount_95d88_45 ?_
  refine G_ladd hC dJ13_bitCount_95d88_46 ?_
  refine G_ls0 hC dJ13_bitCount_95d88_47 ?_
  refine G_ll0 hC dJ13_bitCount_95d88_48 ?_
  refine G_ll0 hC dJ13_bitCount_95d88_49 ?_
  refine G_bipush hC dJ13_bitCount_95d88_50 (by decide) ?_
  refine G_lushr hC dJ13_bitCount_95d88_52 ?_
  refine G_ladd hC dJ13_bitCount_95d88_53 ?_
  refine G_ls0 hC dJ13_bitCount_95d88_54 ?_
  refine G_ll0 hC dJ13_bitCount_95d88_55 ?_
  refine G_l2i hC dJ13_bitCount_95d88_56 ?_
  refine G_bipush hC dJ13_bitCount_95d88_57 (by decide) ?_
  refine G_iand hC dJ13_bitCount_95d88_59 ?_
  exact G_iret hC hQ dJ13_bitCount_95d88_60 ⟨_, rfl, rfl, rfl, rfl⟩
