/-! what searches are asked -/
theorem bX_mem {T : TB} {s : List BE × Nat} {k : Nat} {x : BE} (h : s.1[k]? = some x) : (bX T s).1[k]? = some x := by
  unfold bX
  split
  · exact h
  · exact bI_mem _ _ _ h
theorem bXn_mem {T : TB} {k : Nat} {x : BE} : ∀ m (s : List BE × Nat), s.1[k]? = some x → (bXn T m s).1[k]? = some x
  | 0, _, h => h
  | m + 1, s, h => bXn_mem m (bX T s) (bX_mem h)
theorem bXn_add {T : TB} : ∀ m n (s : List BE × Nat), bXn T n (bXn T m s) = bXn T (m + n) s
  | 0, n, s => by rw [Nat.zero_add]; rfl
  | m + 1, n, s => by
    rw [show m + 1 + n = (m + n) + 1 by omega]
    show bXn T n (bXn T m (bX T s)) = bXn T (m + n) (bX T s)
    exact bXn_add m n (bX T s)
/-- the first one with a property, or how far it was looked -/
def FDp (Pd : BE → Prop) (s : List BE × Nat) (k : Nat) (e : BE) : Prop := (∀ k', k' < k → ∃ x : BE, s.1[k']? = some x ∧ ¬ Pd x) ∧ s.1[k]? = some e ∧ Pd e
def LKp (Pd : BE → Prop) (lim : Int) (s : List BE × Nat) (k : Nat) : Prop := (∀ k', k' < k → ∃ x : BE, s.1[k']? = some x ∧ ¬ Pd x) ∧ (k = 720 ∨ (stopB k lim s.1 s.2 ∧ ∀ e : BE, s.1[k]? = some e → lim ≤ (e.2.1 : Int)))
/-- the memory behind a search that went on from s by m lies -/
def SeM (M M' : Mem) (se mv tb oo len N : Nat) (T : TB) (lq : Nat → Nat) (s : List BE × Nat) (m : Nat) : Prop := SeB M' se oo N lq (bXn T m s).1 (bXn T m s).2 ∧ SI M' mv tb len T N lq ∧ eqx (seX se mv oo) M M' ∧ M' se 1 = M se 1
theorem seX_tb {se mv tb oo len : Nat} (h : isSe se mv tb oo len) {a : Nat} (ha : a = tb ∨ a = tb + 1 ∨ a = tb + 2 ∨ a = tb + 3 ∨ a = 12 ∨ a = 13 ∨ a = 14) : ¬ seX se mv oo a := by
  unfold isSe at h
  intro q
  rcases q with q | q | q | q | q <;> omega
def fwQ (M : Mem) (P : PMem) (se mv tb oo len N : Nat) (T : TB) (lq : Nat → Nat) (bl : List BE) (o g d : Nat) (f0 : Nat → Nat) : Int → Mem → PMem → Prop := fun r M' P' => P = P' ∧ ∃ m : Nat, SeM M M' se mv tb oo len N T lq (bl, o) m ∧ ((∃ k e, r = ((k : Nat) : Int) ∧ FDp (fun x => dgf x.1 g = d) (bXn T m (bl, o)) k e) ∨ (r = -1 ∧ (sFrom f0 d 6 0 < 0 ∨ ∃ k, LKp (fun x => dgf x.1 g = d) 1000000 (bXn T m (bl, o)) k)))
theorem sFrom_r (f : Nat → Nat) (d : Int) : ∀ n s, -1 ≤ sFrom f d n s ∧ sFrom f d n s ≤ s + n
  | 0, s => by unfold sFrom; omega
  | n + 1, s => by
    unfold sFrom
    have := sFrom_r f d n (s + 1)
    split <;> omega
set_option maxHeartbeats 4000000 in
set_option maxRecDepth 100000 in
theorem c_X5_firstWith {l : Launch} {se mv tb oo len N o0 : Nat} {T : TB} {lq : Nat → Nat} {bl : List BE} {g d : Nat} {f0 : Nat → Nat} {M : Mem} {P : PMem} (hGr : Gr P) (hse : isSe se mv tb oo len) (hS : SI M mv tb len T N lq) (hB : SeB M se oo N lq bl o0) (hg : g < 6) (hd : d < 8) (hf0 : M tb 5 = (enc f0 : Int)) (hl0 : lo8 f0) : CtI l yX5_firstWith cX5_firstWith 5 (some .int) 5 138 45 [vR se, vI g, vI d] M P (fwQ M P se mv tb oo len N T lq bl o0 g d f0) := by
  refine Ct_of (own := RX5) (L := [vR se, vI g, vI d, vX 1, vX 1]) (by decide) rfl rfl (Nat.le_of_ble_eq_true rfl) (fun X Y hl hC hQ => ?_)
  obtain ⟨ss0, ss1, ss2, ss3, sb0, sb2, sp0, sp2, sp3, sp4⟩ := isSe_all hGr hse
  obtain ⟨sn1, sn2, sn3, sn4, sn5, sn6⟩ := hse.ne
  have hmv := hse.mv
  obtain ⟨vs0, vs1, vst, vT, vp0, vp1, vp2, vb1, vbt, vlen, vb14⟩ := isMv_all hGr hmv
  have hlp : ∀ (c k : Nat) (kv : Int) (M1 : Mem) (m : Nat) (x4 : AV), k + c = 720 → kv = (k : Int) → SeM M M1 se mv tb oo len N T lq (bl, o0) m → (∀ k', k' < k → ∃ x : BE, (bXn T m (bl, o0)).1[k']? = some x ∧ ¬ dgf x.1 g = d) → G X Y 21 [vR se, vI g, vI d, vI kv, x4] [] M1 P := by
    intro c
    induction c with
    | zero =>
      intro k kv M1 m x4 hk e1 hM1 hl
      subst e1
      refine G_il3 hC dX5_firstWith_21 ?_
      refine G_sipush hC dX5_firstWith_22 (by decide) ?_
      refine G_icmp_ge (tgt := 75) hC dX5_firstWith_25 (by decide) (by omega) (by omega) (fun c25 => ?_) (fun c25 => ?_)
      · refine G_iconst hC dX5_firstWith_75 ?_
        exact G_iret hC hQ dX5_firstWith_76 ⟨_, rfl, rfl, m, hM1, Or.inr ⟨rfl, Or.inr ⟨k, hl, Or.inl (by omega)⟩⟩⟩
      · exact absurd c25 (by omega)
    | succ c ih =>
      intro k kv M1 m x4 hk e1 hM1 hl
      subst e1
      obtain ⟨q1, q2, q3, q4⟩ := id hM1
      refine G_il3 hC dX5_firstWith_21 ?_
      refine G_sipush hC dX5_firstWith_22 (by decide) ?_
      refine G_icmp_ge (tgt := 75) hC dX5_firstWith_25 (by decide) (by omega) (by omega) (fun c25 => ?_) (fun c25 => ?_)
      · exact absurd c25 (by omega)
      · refine G_al0 hC dX5_firstWith_28 ?_
        refine G_il3 hC dX5_firstWith_29 ?_
        refine G_ldc (z := 1000000) hC kc_X5_89 (by decide) dX5_firstWith_30 ?_
        refine G_callVI hC (c_X5_reachedAs hGr hse q2 q1 (by omega) (by omega)) mv_X5_90 (by first | assumption | rfl) (by omega) (by decide) rfl (by decide) dX5_firstWith_32 rfl (Nat.le_of_ble_eq_true rfl) rfl (fun z32 M32 P32 h32 => ?_)
        skip
        obtain ⟨rfl, m2, r1, r2, r3, r4, r5, r6⟩ := h32
        rw [bXn_add] at r1 r5 r6
        have hM2 : SeM M M32 se mv tb oo len N T lq (bl, o0) (m + m2) := ⟨r1, r2, q3.trans r3, by rw [r4]; exact q4⟩
        have hl2 : ∀ k', k' < k → ∃ x : BE, (bXn T (m + m2) (bl, o0)).1[k']? = some x ∧ ¬ dgf x.1 g = d := fun k' hk' => by
          obtain ⟨x, x1, x2⟩ := hl k' hk'
          rw [← bXn_add]
          exact ⟨x, bXn_mem m2 _ x1, x2⟩
        have hN7 := r2.2.1.2.2.1
        rcases r6 with ⟨e, lz, s1, s2, s3, s4, s5⟩ | ⟨s1, s2⟩
        · subst s5
          have hlt := r2.2.1.lt s3
          have hM13 : M32 13 lz = ((enc (dgf e.1) : Nat) : Int) := by rw [(r2.2.1.2.2.2.1 lz s3).1, s4, enc_dgf (by rw [← s4]; exact hlt)]
          refine G_is4 hC dX5_firstWith_35 rfl ?_
          refine G_il4 hC dX5_firstWith_37 ?_
          refine G_sipush hC dX5_firstWith_39 (by decide) ?_
          refine G_icmp_ne (tgt := 47) hC dX5_firstWith_42 (by decide) (by omega) (by omega) (fun c42 => ?_) (fun c42 => ?_)
          · refine G_al0 hC dX5_firstWith_47 ?_
            refine G_getR hC fl_X5_25 (by first | assumption | rfl) (by omega) (by first | assumption | exact hGr _ _ _ rfl) dX5_firstWith_48 ?_
            refine G_getR hC fl_X5_93 (by first | assumption | rfl) (by omega) (by first | assumption | exact hGr _ _ _ rfl) dX5_firstWith_51 ?_
            refine G_il4 hC dX5_firstWith_54 ?_
            refine G_callVI hC (c_X0_lieOf hGr (by omega)) mv_X5_97 (by first | assumption | rfl) (by omega) (by decide) rfl (by decide) dX5_firstWith_56 rfl (Nat.le_of_ble_eq_true rfl) rfl (fun z56 M56 P56 h56 => ?_)
            obtain ⟨rfl, rfl, rfl⟩ := h56
            rw [hM13]
            refine G_il1 hC dX5_firstWith_59 ?_
            refine G_callSI hC (c_X9_before (dgf_lo _) (by omega)) ms_X5_102 (by decide) rfl (by decide) dX5_firstWith_60 rfl (Nat.le_of_ble_eq_true rfl) rfl (fun z60 M60 P60 h60 => ?_)
            obtain ⟨rfl, rfl, rfl⟩ := h60
            refine G_il2 hC dX5_firstWith_63 ?_
            refine G_icmp_ne (tgt := 69) hC dX5_firstWith_64 (by decide) (by have := dgf_lo e.1 g; omega) (by omega) (fun c64 => ?_) (fun c64 => ?_)
            · refine G_inc3 hC dX5_firstWith_69 rfl ?_
              refine G_goto (tgt := 21) hC dX5_firstWith_72 (by decide) ?_
              exact ih (k + 1) _ M32 (m + m2) _ (by omega) (by omega) hM2 (fun k' hk' => by
                rcases Nat.lt_or_ge k' k with z | z
                · exact hl2 k' z
                · have : k' = k := by omega
                  subst this
                  exact ⟨e, s1, fun z => c64 (by omega)⟩)
            · refine G_il3 hC dX5_firstWith_67 ?_
              exact G_iret hC hQ dX5_firstWith_68 ⟨_, rfl, rfl, m + m2, hM2, Or.inl ⟨k, e, rfl, hl2, s1, by omega⟩⟩
          · exact absurd c42 (by omega)
        · subst s1
          refine G_is4 hC dX5_firstWith_35 rfl ?_
          refine G_il4 hC dX5_firstWith_37 ?_
          refine G_sipush hC dX5_firstWith_39 (by decide) ?_
          refine G_icmp_ne (tgt := 47) hC dX5_firstWith_42 (by decide) (by omega) (by omega) (fun c42 => ?_) (fun c42 => ?_)
          · exact absurd rfl c42
          · refine G_iconst hC dX5_firstWith_45 ?_
            exact G_iret hC hQ dX5_firstWith_46 ⟨_, rfl, rfl, m + m2, hM2, Or.inr ⟨rfl, Or.inr ⟨k, hl2, Or.inr ⟨r5, s2⟩⟩⟩⟩
  refine G_al0 hC dX5_firstWith_0 ?_
  refine G_getR hC fl_X5_25 (by first | assumption | rfl) (by omega) (by first | assumption | exact hGr _ _ _ rfl) dX5_firstWith_1 ?_
  refine G_getR hC fl_X5_48 (by first | assumption | rfl) (by omega) (by first | assumption | exact hGr _ _ _ rfl) dX5_firstWith_4 ?_
  refine G_getI hC fl_X5_83 (by first | assumption | rfl) (by omega) dX5_firstWith_7 ?_
  rw [hf0]
  refine G_il2 hC dX5_firstWith_10 ?_
  refine G_callSI hC (c_X9_seatOf hl0 (by omega)) ms_X5_86 (by decide) rfl (by decide) dX5_firstWith_11 rfl (Nat.le_of_ble_eq_true rfl) rfl (fun z11 M11 P11 h11 => ?_)
  obtain ⟨rfl, rfl, rfl⟩ := h11
  refine G_if_ge (tgt := 19) hC dX5_firstWith_14 (by decide) (by have := sFrom_r f0 d 6 0; omega) (fun c14 => ?_) (fun c14 => ?_)
  · refine G_iconst hC dX5_firstWith_19 ?_
    refine G_is3 hC dX5_firstWith_20 rfl ?_
    exact hlp 720 0 _ M 0 _ (by omega) rfl ⟨hB, hS, eqx.refl, rfl⟩ (fun k' hk' => by omega)
  · refine G_iconst hC dX5_firstWith_17 ?_
    exact G_iret hC hQ dX5_firstWith_18 ⟨_, rfl, rfl, 0, ⟨hB, hS, eqx.refl, rfl⟩, Or.inr ⟨rfl, Or.inl c14⟩⟩
def stQ (M : Mem) (P : PMem) (se mv tb oo len N : Nat) (T : TB) (lq : Nat → Nat) (bl : List BE) (o g d : Nat) (f0 : Nat → Nat) : Int → Mem → PMem → Prop := fun r M' P' => P = P' ∧ ∃ m : Nat, SeM M M' se mv tb oo len N T lq (bl, o) m ∧ ((∃ k e, r = (e.2.1 : Int) ∧ FDp (fun x => dgf x.1 g = d) (bXn T m (bl, o)) k e) ∨ (r = -4 ∧ (sFrom f0 d 6 0 < 0 ∨ ∃ k, LKp (fun x => dgf x.1 g = d) 1000000 (bXn T m (bl, o)) k)))
def opQ (M : Mem) (P : PMem) (se mv tb oo len N : Nat) (T : TB) (lq : Nat → Nat) (bl : List BE) (o g d : Nat) (f0 : Nat → Nat) : Int → Mem → PMem → Prop := fun r M' P' => P = P' ∧ ∃ m : Nat, SeM M M' se mv tb oo len N T lq (bl, o) m ∧ ((∃ k e, (if k = 0 then r = -4 else r = (e.2.2 : Int)) ∧ FDp (fun x => dgf x.1 g = d) (bXn T m (bl, o)) k e) ∨ (r = -4 ∧ (sFrom f0 d 6 0 < 0 ∨ ∃ k, LKp (fun x => dgf x.1 g = d) 1000000 (bXn T m (bl, o)) k)))
set_option maxHeartbeats 4000000 in
set_option maxRecDepth 100000 in
theorem c_X5_stepsTo {l : Launch} {se mv tb oo len N o0 : Nat} {T : TB} {lq : Nat → Nat} {bl : List BE} {g d : Nat} {f0 : Nat → Nat} {M : Mem} {P : PMem} (hGr : Gr P) (hse : isSe se mv tb oo len) (hS : SI M mv tb len T N lq) (hB : SeB M se oo N lq bl o0) (hg : g < 6) (hd : d < 8) (hf0 : M tb 5 = (enc f0 : Int)) (hl0 : lo8 f0) : CtI l yX5_stepsTo cX5_stepsTo 4 (some .int) 6 162 45 [vR se, vI g, vI d] M P (stQ M P se mv tb oo len N T lq bl o0 g d f0) := by
  refine Ct_of (own := RX5) (L := [vR se, vI g, vI d, vX 1]) (by decide) rfl rfl (Nat.le_of_ble_eq_true rfl) (fun X Y hl hC hQ => ?_)
  obtain ⟨ss0, ss1, ss2, ss3, sb0, sb2, sp0, sp2, sp3, sp4⟩ := isSe_all hGr hse
  obtain ⟨sn1, sn2, sn3, sn4, sn5, sn6⟩ := hse.ne
  have hmv := hse.mv
  obtain ⟨vs0, vs1, vst, vT, vp0, vp1, vp2, vb1, vbt, vlen, vb14⟩ := isMv_all hGr hmv
  refine G_al0 hC dX5_stepsTo_0 ?_
  refine G_il1 hC dX5_stepsTo_1 ?_
  refine G_il2 hC dX5_stepsTo_2 ?_
  refine G_callVI hC (c_X5_firstWith hGr hse hS hB hg hd hf0 hl0) mv_X5_79 (by first | assumption | rfl) (by omega) (by decide) rfl (by decide) dX5_stepsTo_3 rfl (Nat.le_of_ble_eq_true rfl) rfl (fun z3 M3 P3 h3 => ?_)
  skip
  obtain ⟨rfl, m, hM2, hr⟩ := h3
  rcases hr with ⟨k, e, rfl, f1, f2, f3⟩ | ⟨rfl, hr⟩
  · obtain ⟨q1, q2, q3, q4⟩ := id hM2
    obtain ⟨lz, b1, b2, b3, b4, b5, b6, b7⟩ := q1.2.2.2.2.1 k e f2
    have hlen := q1.len
    have hkl := (List.getElem?_eq_some_iff.mp f2).1
    have hN7 := q2.2.1.2.2.1
    refine G_is3 hC dX5_stepsTo_6 rfl ?_
    refine G_il3 hC dX5_stepsTo_7 ?_
    refine G_if_ge (tgt := 16) hC dX5_stepsTo_8 (by decide) (by omega) (fun c8 => ?_) (fun c8 => ?_)
    · refine G_al0 hC dX5_stepsTo_16 ?_
      refine G_il3 hC dX5_stepsTo_17 ?_
      refine G_callVI hC (c_X5_stepsAs hGr hse (by omega) b3 (by omega)) mv_X5_59 (by first | assumption | rfl) (by omega) (by decide) rfl (by decide) dX5_stepsTo_18 rfl (Nat.le_of_ble_eq_true rfl) rfl (fun z18 M18 P18 h18 => ?_)
      obtain ⟨rfl, rfl, rfl⟩ := h18
      exact G_iret hC hQ dX5_stepsTo_21 ⟨_, rfl, rfl, m, hM2, Or.inl ⟨k, e, b4, f1, f2, f3⟩⟩
    · exact absurd c8 (by omega)
  · refine G_is3 hC dX5_stepsTo_6 rfl ?_
    refine G_il3 hC dX5_stepsTo_7 ?_
    refine G_if_ge (tgt := 16) hC dX5_stepsTo_8 (by decide) (by omega) (fun c8 => ?_) (fun c8 => ?_)
    · exact absurd c8 (by omega)
    · refine G_bipush hC dX5_stepsTo_11 (by decide) ?_
      refine G_goto (tgt := 21) hC dX5_stepsTo_13 (by decide) ?_
      exact G_iret hC hQ dX5_stepsTo_21 ⟨_, rfl, rfl, m, hM2, Or.inr ⟨rfl, hr⟩⟩
set_option maxHeartbeats 4000000 in
set_option maxRecDepth 100000 in
theorem c_X5_openingTo {l : Launch} {se mv tb oo len N o0 : Nat} {T : TB} {lq : Nat → Nat} {bl : List BE} {g d : Nat} {f0 : Nat → Nat} {M : Mem} {P : PMem} (hGr : Gr P) (hse : isSe se mv tb oo len) (hS : SI M mv tb len T N lq) (hB : SeB M se oo N lq bl o0) (hg : g < 6) (hd : d < 8) (hf0 : M tb 5 = (enc f0 : Int)) (hl0 : lo8 f0) : CtI l yX5_openingTo cX5_openingTo 4 (some .int) 6 162 45 [vR se, vI g, vI d] M P (opQ M P se mv tb oo len N T lq bl o0 g d f0) := by
  refine Ct_of (own := RX5) (L := [vR se, vI g, vI d, vX 1]) (by decide) rfl rfl (Nat.le_of_ble_eq_true rfl) (fun X Y hl hC hQ => ?_)
  obtain ⟨ss0, ss1, ss2, ss3, sb0, sb2, sp0, sp2, sp3, sp4⟩ := isSe_all hGr hse
  obtain ⟨sn1, sn2, sn3, sn4, sn5, sn6⟩ := hse.ne
  have hmv := hse.mv
  obtain ⟨vs0, vs1, vst, vT, vp0, vp1, vp2, vb1, vbt, vlen, vb14⟩ := isMv_all hGr hmv
  refine G_al0 hC dX5_openingTo_0 ?_
  refine G_il1 hC dX5_openingTo_1 ?_
  refine G_il2 hC dX5_openingTo_2 ?_
  refine G_callVI hC (c_X5_firstWith hGr hse hS hB hg hd hf0 hl0) mv_X5_79 (by first | assumption | rfl) (by omega) (by decide) rfl (by decide) dX5_openingTo_3 rfl (Nat.le_of_ble_eq_true rfl) rfl (fun z3 M3 P3 h3 => ?_)
  skip
  obtain ⟨rfl, m, hM2, hr⟩ := h3
  rcases hr with ⟨k, e, rfl, f1, f2, f3⟩ | ⟨rfl, hr⟩
  · obtain ⟨q1, q2, q3, q4⟩ := id hM2
    obtain ⟨lz, b1, b2, b3, b4, b5, b6, b7⟩ := q1.2.2.2.2.1 k e f2
    have hlen := q1.len
    have hkl := (List.getElem?_eq_some_iff.mp f2).1
    have hN7 := q2.2.1.2.2.1
    refine G_is3 hC dX5_openingTo_6 rfl ?_
    refine G_il3 hC dX5_openingTo_7 ?_
    refine G_if_gt (tgt := 16) hC dX5_openingTo_8 (by decide) (by omega) (fun c8 => ?_) (fun c8 => ?_)
    · refine G_al0 hC dX5_openingTo_16 ?_
      refine G_getR hC fl_X5_22 (by first | assumption | rfl) (by omega) (by first | assumption | exact hGr _ _ _ rfl) dX5_openingTo_17 ?_
      refine G_al0 hC dX5_openingTo_20 ?_
      refine G_getR hC fl_X5_15 (by first | assumption | rfl) (by omega) (by first | assumption | exact hGr _ _ _ rfl) dX5_openingTo_21 ?_
      refine G_il3 hC dX5_openingTo_24 ?_
      refine G_callSI hC (c_atN ss1 (by omega) (by omega)) ms_X5_63 (by decide) rfl (by decide) dX5_openingTo_25 rfl (Nat.le_of_ble_eq_true rfl) rfl (fun z25 M25 P25 h25 => ?_)
      obtain ⟨rfl, rfl, rfl⟩ := h25
      rw [b3]
      refine G_callSI hC (c_atN ss3 (by omega) (by omega)) ms_X5_63 (by decide) rfl (by decide) dX5_openingTo_28 rfl (Nat.le_of_ble_eq_true rfl) rfl (fun z28 M28 P28 h28 => ?_)
      obtain ⟨rfl, rfl, rfl⟩ := h28
      exact G_iret hC hQ dX5_openingTo_31 ⟨_, rfl, rfl, m, hM2, Or.inl ⟨k, e, by
    first
      | (rw [if_pos (by omega)]; done)
      | (rw [if_neg (by omega)]; exact b5), f1, f2, f3⟩⟩
    · refine G_bipush hC dX5_openingTo_11 (by decide) ?_
      refine G_goto (tgt := 31) hC dX5_openingTo_13 (by decide) ?_
      exact G_iret hC hQ dX5_openingTo_31 ⟨_, rfl, rfl, m, hM2, Or.inl ⟨k, e, by
    first
      | (rw [if_pos (by omega)]; done)
      | (rw [if_neg (by omega)]; exact b5), f1, f2, f3⟩⟩
  · refine G_is3 hC dX5_openingTo_6 rfl ?_
    refine G_il3 hC dX5_openingTo_7 ?_
    refine G_if_gt (tgt := 16) hC dX5_openingTo_8 (by decide) (by omega) (fun c8 => ?_) (fun c8 => ?_)
    · exact absurd c8 (by omega)
    · refine G_bipush hC dX5_openingTo_11 (by decide) ?_
      refine G_goto (tgt := 31) hC dX5_openingTo_13 (by decide) ?_
      exact G_iret hC hQ dX5_openingTo_31 ⟨_, rfl, rfl, m, hM2, Or.inr ⟨rfl, hr⟩⟩
def srQ (M : Mem) (P : PMem) (se mv tb oo len N : Nat) (T : TB) (lq : Nat → Nat) (bl : List BE) (o : Nat) (W : Nat → Nat) (lim : Int) : Int → Mem → PMem → Prop := fun r M' P' => P = P' ∧ ∃ m : Nat, SeM M M' se mv tb oo len N T lq (bl, o) m ∧ ((∃ k e, r = (e.2.1 : Int) ∧ (e.2.1 : Int) < lim ∧ FDp (fun x => atR T W (dgf x.1)) (bXn T m (bl, o)) k e) ∨ (r = -4 ∧ ∃ k, LKp (fun x => atR T W (dgf x.1)) lim (bXn T m (bl, o)) k))
set_option maxHeartbeats 4000000 in
set_option maxRecDepth 100000 in
theorem c_X5_stepsToRest {l : Launch} {se mv tb oo len N o0 : Nat} {T : TB} {lq : Nat → Nat} {bl : List BE} {W : Nat → Nat} {lim : Int} {M : Mem} {P : PMem} (hGr : Gr P) (hse : isSe se mv tb oo len) (hS : SI M mv tb len T N lq) (hB : SeB M se oo N lq bl o0) (hW : TabW M tb W) (hlim : 0 ≤ lim ∧ lim ≤ 1000000) : CtI l yX5_stepsToRest cX5_stepsToRest 4 (some .int) 5 138 45 [vR se, vI lim] M P (srQ M P se mv tb oo len N T lq bl o0 W lim) := by
  refine Ct_of (own := RX5) (L := [vR se, vI lim, vX 1, vX 1]) (by decide) rfl rfl (Nat.le_of_ble_eq_true rfl) (fun X Y hl hC hQ => ?_)
  obtain ⟨ss0, ss1, ss2, ss3, sb0, sb2, sp0, sp2, sp3, sp4⟩ := isSe_all hGr hse
  obtain ⟨sn1, sn2, sn3, sn4, sn5, sn6⟩ := hse.ne
  have hmv := hse.mv
  obtain ⟨vs0, vs1, vst, vT, vp0, vp1, vp2, vb1, vbt, vlen, vb14⟩ := isMv_all hGr hmv
  have hlp : ∀ (c k : Nat) (kv : Int) (M1 : Mem) (m : Nat) (x3 : AV), k + c = 720 → kv = (k : Int) → SeM M M1 se mv tb oo len N T lq (bl, o0) m → (∀ k', k' < k → ∃ x : BE, (bXn T m (bl, o0)).1[k']? = some x ∧ ¬ atR T W (dgf x.1)) → G X Y 2 [vR se, vI lim, vI kv, x3] [] M1 P := by
    intro c
    induction c with
    | zero =>
      intro k kv M1 m x3 hk e1 hM1 hl
      subst e1
      refine G_il2 hC dX5_stepsToRest_2 ?_
      refine G_sipush hC dX5_stepsToRest_3 (by decide) ?_
      refine G_icmp_ge (tgt := 65) hC dX5_stepsToRest_6 (by decide) (by omega) (by omega) (fun c6 => ?_) (fun c6 => ?_)
      · refine G_bipush hC dX5_stepsToRest_65 (by decide) ?_
        exact G_iret hC hQ dX5_stepsToRest_67 ⟨_, rfl, rfl, m, hM1, Or.inr ⟨rfl, k, hl, Or.inl (by omega)⟩⟩
      · exact absurd c6 (by omega)
    | succ c ih =>
      intro k kv M1 m x3 hk e1 hM1 hl
      subst e1
      obtain ⟨q1, q2, q3, q4⟩ := id hM1
      refine G_il2 hC dX5_stepsToRest_2 ?_
      refine G_sipush hC dX5_stepsToRest_3 (by decide) ?_
      refine G_icmp_ge (tgt := 65) hC dX5_stepsToRest_6 (by decide) (by omega) (by omega) (fun c6 => ?_) (fun c6 => ?_)
      · exact absurd c6 (by omega)
      · refine G_al0 hC dX5_stepsToRest_9 ?_
        refine G_il2 hC dX5_stepsToRest_10 ?_
        refine G_il1 hC dX5_stepsToRest_11 ?_
        refine G_callVI hC (c_X5_reachedAs hGr hse q2 q1 (by omega) hlim) mv_X5_90 (by first | assumption | rfl) (by omega) (by decide) rfl (by decide) dX5_stepsToRest_12 rfl (Nat.le_of_ble_eq_true rfl) rfl (fun z12 M12 P12 h12 => ?_)
        skip
        obtain ⟨rfl, m2, r1, r2, r3, r4, r5, r6⟩ := h12
        rw [bXn_add] at r1 r5 r6
        have hM2 : SeM M M12 se mv tb oo len N T lq (bl, o0) (m + m2) := ⟨r1, r2, q3.trans r3, by rw [r4]; exact q4⟩
        have hl2 : ∀ k', k' < k → ∃ x : BE, (bXn T (m + m2) (bl, o0)).1[k']? = some x ∧ ¬ atR T W (dgf x.1) := fun k' hk' => by
          obtain ⟨x, x1, x2⟩ := hl k' hk'
          rw [← bXn_add]
          exact ⟨x, bXn_mem m2 _ x1, x2⟩
        have hN7 := r2.2.1.2.2.1
        have hW2 : TabW M12 tb W := fun g hg => by rw [(q3.trans r3) (tb + 2) (seX_tb hse (by omega))]; exact hW g hg
        rcases r6 with ⟨e, lz, s1, s2, s3, s4, s5⟩ | ⟨s1, s2⟩
        · subst s5
          have hlt := r2.2.1.lt s3
          have hM13 : M12 13 lz = ((enc (dgf e.1) : Nat) : Int) := by rw [(r2.2.1.2.2.2.1 lz s3).1, s4, enc_dgf (by rw [← s4]; exact hlt)]
          obtain ⟨ly, b1, b2, b3, b4, b5, b6, b7⟩ := r1.2.2.2.2.1 k e s1
          have hly : ly = lz := r2.2.1.inj b1 s3 (by rw [b2, s4])
          subst hly
          by_cases hat : atR T W (dgf e.1)
          · have hai := atI_1 hat
            refine G_is3 hC dX5_stepsToRest_15 rfl ?_
            refine G_il3 hC dX5_stepsToRest_16 ?_
            refine G_sipush hC dX5_stepsToRest_17 (by decide) ?_
            refine G_icmp_ne (tgt := 26) hC dX5_stepsToRest_20 (by decide) (by omega) (by omega) (fun c20 => ?_) (fun c20 => ?_)
            · refine G_al0 hC dX5_stepsToRest_26 ?_
              refine G_getR hC fl_X5_25 (by first | assumption | rfl) (by omega) (by first | assumption | exact hGr _ _ _ rfl) dX5_stepsToRest_27 ?_
              refine G_getR hC fl_X5_48 (by first | assumption | rfl) (by omega) (by first | assumption | exact hGr _ _ _ rfl) dX5_stepsToRest_30 ?_
              refine G_al0 hC dX5_stepsToRest_33 ?_
              refine G_getR hC fl_X5_25 (by first | assumption | rfl) (by omega) (by first | assumption | exact hGr _ _ _ rfl) dX5_stepsToRest_34 ?_
              refine G_getR hC fl_X5_93 (by first | assumption | rfl) (by omega) (by first | assumption | exact hGr _ _ _ rfl) dX5_stepsToRest_37 ?_
              refine G_il3 hC dX5_stepsToRest_40 ?_
              refine G_callVI hC (c_X0_lieOf hGr (by omega)) mv_X5_97 (by first | assumption | rfl) (by omega) (by decide) rfl (by decide) dX5_stepsToRest_41 rfl (Nat.le_of_ble_eq_true rfl) rfl (fun z41 M41 P41 h41 => ?_)
              obtain ⟨rfl, rfl, rfl⟩ := h41
              rw [hM13]
              refine G_callVI hC (c_X7_isAtRest hGr vT r2.1 hW2 (dgf_lo _)) mv_X5_105 (by first | assumption | rfl) (by omega) (by decide) rfl (by decide) dX5_stepsToRest_44 rfl (Nat.le_of_ble_eq_true rfl) rfl (fun z44 M44 P44 h44 => ?_)
              obtain ⟨rfl, rfl, rfl⟩ := h44
              refine G_if_eq (tgt := 59) hC dX5_stepsToRest_47 (by decide) (by rw [hai]; omega) (fun c47 => ?_) (fun c47 => ?_)
              · exact absurd c47 (by rw [hai]; omega)
              · refine G_al0 hC dX5_stepsToRest_50 ?_
                refine G_getR hC fl_X5_19 (by first | assumption | rfl) (by omega) (by first | assumption | exact hGr _ _ _ rfl) dX5_stepsToRest_51 ?_
                refine G_il3 hC dX5_stepsToRest_54 ?_
                refine G_callSI hC (c_atN ss2 (by omega) (by omega)) ms_X5_63 (by decide) rfl (by decide) dX5_stepsToRest_55 rfl (Nat.le_of_ble_eq_true rfl) rfl (fun z55 M55 P55 h55 => ?_)
                obtain ⟨rfl, rfl, rfl⟩ := h55
                exact G_iret hC hQ dX5_stepsToRest_58 ⟨_, rfl, rfl, m + m2, hM2, Or.inl ⟨k, e, b4, s2, hl2, s1, hat⟩⟩
            · exact absurd c20 (by omega)
          · have hai := atI_0 hat
            refine G_is3 hC dX5_stepsToRest_15 rfl ?_
            refine G_il3 hC dX5_stepsToRest_16 ?_
            refine G_sipush hC dX5_stepsToRest_17 (by decide) ?_
            refine G_icmp_ne (tgt := 26) hC dX5_stepsToRest_20 (by decide) (by omega) (by omega) (fun c20 => ?_) (fun c20 => ?_)
            · refine G_al0 hC dX5_stepsToRest_26 ?_
              refine G_getR hC fl_X5_25 (by first | assumption | rfl) (by omega) (by first | assumption | exact hGr _ _ _ rfl) dX5_stepsToRest_27 ?_
              refine G_getR hC fl_X5_48 (by first | assumption | rfl) (by omega) (by first | assumption | exact hGr _ _ _ rfl) dX5_stepsToRest_30 ?_
              refine G_al0 hC dX5_stepsToRest_33 ?_
              refine G_getR hC fl_X5_25 (by first | assumption | rfl) (by omega) (by first | assumption | exact hGr _ _ _ rfl) dX5_stepsToRest_34 ?_
              refine G_getR hC fl_X5_93 (by first | assumption | rfl) (by omega) (by first | assumption | exact hGr _ _ _ rfl) dX5_stepsToRest_37 ?_
              refine G_il3 hC dX5_stepsToRest_40 ?_
              refine G_callVI hC (c_X0_lieOf hGr (by omega)) mv_X5_97 (by first | assumption | rfl) (by omega) (by decide) rfl (by decide) dX5_stepsToRest_41 rfl (Nat.le_of_ble_eq_true rfl) rfl (fun z41 M41 P41 h41 => ?_)
              obtain ⟨rfl, rfl, rfl⟩ := h41
              rw [hM13]
              refine G_callVI hC (c_X7_isAtRest hGr vT r2.1 hW2 (dgf_lo _)) mv_X5_105 (by first | assumption | rfl) (by omega) (by decide) rfl (by decide) dX5_stepsToRest_44 rfl (Nat.le_of_ble_eq_true rfl) rfl (fun z44 M44 P44 h44 => ?_)
              obtain ⟨rfl, rfl, rfl⟩ := h44
              refine G_if_eq (tgt := 59) hC dX5_stepsToRest_47 (by decide) (by rw [hai]; omega) (fun c47 => ?_) (fun c47 => ?_)
              · refine G_inc2 hC dX5_stepsToRest_59 rfl ?_
                refine G_goto (tgt := 2) hC dX5_stepsToRest_62 (by decide) ?_
                exact ih (k + 1) _ M12 (m + m2) _ (by omega) (by omega) hM2 (fun k' hk' => by
                  rcases Nat.lt_or_ge k' k with z | z
                  · exact hl2 k' z
                  · have : k' = k := by omega
                    subst this
                    exact ⟨e, s1, hat⟩)
              · exact absurd hai c47
            · exact absurd c20 (by omega)
        · subst s1
          refine G_is3 hC dX5_stepsToRest_15 rfl ?_
          refine G_il3 hC dX5_stepsToRest_16 ?_
          refine G_sipush hC dX5_stepsToRest_17 (by decide) ?_
          refine G_icmp_ne (tgt := 26) hC dX5_stepsToRest_20 (by decide) (by omega) (by omega) (fun c20 => ?_) (fun c20 => ?_)
          · exact absurd rfl c20
          · refine G_bipush hC dX5_stepsToRest_23 (by decide) ?_
            exact G_iret hC hQ dX5_stepsToRest_25 ⟨_, rfl, rfl, m + m2, hM2, Or.inr ⟨rfl, k, hl2, Or.inr ⟨r5, s2⟩⟩⟩
  refine G_iconst hC dX5_stepsToRest_0 ?_
  refine G_is2 hC dX5_stepsToRest_1 rfl ?_
  exact hlp 720 0 _ M 0 _ (by omega) rfl ⟨hB, hS, eqx.refl, rfl⟩ (fun k' hk' => by omega)
