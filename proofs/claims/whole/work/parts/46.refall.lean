/-! the reference finds all -/
def KX (T : TB) (N : Nat) (lq f0 : Nat → Nat) : Prop := goodT T N lq ∧ LQ (tn T) f0 N lq ∧ (∀ i, f0 i < 6 ∨ f0 i = 7) ∧ (∀ i j, f0 i ≠ 7 → f0 i = f0 j → i = j)
theorem AR_self0 {n : Nat} {f0 f : Nat → Nat} (h : AR n f0 f) : ∀ d, cnt n f d = cnt n f0 d := h.2
theorem KX_el {T : TB} {N l q : Nat} {lq f0 : Nat → Nat} (hX : KX T N lq f0) (hl : l < N) (he : lq l = q) : lieN (tn T) (dgf q) ∧ injN (tn T) (dgf q) ∧ thF (dgf q) (tn T) = thF f0 (tn T) ∧ cdF (dgf q) (tn T) < 46656 ∧ AR (tn T) f0 (dgf q) ∧ q < 262144 := by
  obtain ⟨h1, h2, h3, h4⟩ := hX
  subst he
  obtain ⟨a1, a2⟩ := h2.1 l hl
  have b1 : lieN (tn T) (dgf (lq l)) := AR_lie h3 a2
  have b2 := AR_inj h4 a2
  exact ⟨b1, b2, th_AR (fun g _ => h3 g) b1 a2, cd_lt h1.1 b1 b2, a2, a1⟩
theorem KX_inj {T : TB} {N l l' : Nat} {lq f0 : Nat → Nat} (hX : KX T N lq f0) (hl : l < N) (hl' : l' < N) (e : cdF (dgf (lq l)) (tn T) = cdF (dgf (lq l')) (tn T)) : lq l = lq l' := by
  obtain ⟨b1, b2, b3, b4, b5, b6⟩ := KX_el hX hl rfl
  obtain ⟨c1, c2, c3, c4, c5, c6⟩ := KX_el hX hl' rfl
  exact dgf_inj b6 c6 (cd_inj hX.1.1 hX.2.2.2 b1 c1 b5 c5 e)
theorem cdF_congr {f g : Nat → Nat} : ∀ n, (∀ i, i < n → f i = g i) → cdF f n = cdF g n
  | 0, _ => rfl
  | n + 1, h => by unfold cdF; rw [cdF_congr n (fun i hi => h i (by omega)), h n (by omega)]
theorem thF_congr {f g : Nat → Nat} : ∀ n, (∀ i, i < n → f i = g i) → thF f n = thF g n
  | 0, _ => rfl
  | n + 1, h => by unfold thF; rw [thF_congr n (fun i hi => h i (by omega)), h n (by omega)]
theorem cd_enc {f : Nat → Nat} {n : Nat} (hn : n ≤ 6) (h : lo8 f) : cdF (dgf (enc f)) n = cdF f n := cdF_congr n (fun i hi => dgf_enc h (by omega))
theorem SkR_l {M M' : Mem} {T : TB} {W : Nat → Nat} (h : SkR M T W) (hK : lK M M') : SkR M' T W := SkR_x h (fun b hb => hK.2 b (by omega) (by omega) (by omega)) (fun a h1 h2 b => hK.1 a (by omega) (by omega) (by omega) b)
set_option maxHeartbeats 4000000 in
set_option maxRecDepth 100000 in
theorem c_X10_comes1 {l : Launch} {n st k q : Nat} {f0 : Nat → Nat} {L : List BE} {e : BE} {s o : Int} {M : Mem} {P : PMem} (hGr : GrM P) (hL : MLi M n st f0 L) (hk : L[k]? = some e) (hc : cdF (dgf e.1) n < 46656) (hq : q = cdF (dgf e.1) n) (hs : 0 ≤ s ∧ s ≤ 100000) (ho : 0 ≤ o ∧ o ≤ 100000) (he : e.2.1 ≤ 100000 ∧ e.2.2 ≤ 100000) (hle : (e.2.1 : Int) = s → (e.2.2 : Int) ≤ o) : CtV l yX10_comes cX10_comes 5 none 1 23 77 [vR 45, vI q, vI s, vI o] M P (pV M P) := by
  refine Ct_of (own := RX10) (L := [vR 45, vI q, vI s, vI o, vX 1]) (by decide) rfl rfl (Nat.le_of_ble_eq_true rfl) (fun X Y hl hC hQ => ?_)
  subst hq
  obtain ⟨⟨h1, h2, h3⟩, ⟨h41, h42, h43⟩, h5, h6⟩ := id hL
  obtain ⟨c1, c2, c3, c4⟩ := h5 k e hk
  have hkl := (List.getElem?_eq_some_iff.mp hk).1
  refine G_al0 hC dX10_comes_0 ?_
  refine G_il1 hC dX10_comes_1 ?_
  refine G_callVI hC (c_X10_index1 hGr hL hk hc) mv_X10_269 (by first | assumption | rfl) (by omega) (by decide) rfl (by decide) dX10_comes_2 rfl (Nat.le_of_ble_eq_true rfl) rfl (fun z2 M2 P2 h2 => ?_)
  obtain ⟨rfl, rfl, rfl⟩ := h2
  refine G_is4 hC dX10_comes_5 rfl ?_
  refine G_il4 hC dX10_comes_7 ?_
  refine G_if_ge (tgt := 22) hC dX10_comes_9 (by decide) (by omega) (fun c9 => ?_) (fun c9 => ?_)
  · refine G_al0 hC dX10_comes_22 ?_
    refine G_getR hC fl_X10_80 (by first | assumption | rfl) (by omega) (by first | assumption | exact hGr _ _ rfl) dX10_comes_23 ?_
    refine G_il4 hC dX10_comes_26 ?_
    refine G_ialoadN (n := k) hC (by first | assumption | rfl) (by omega) (by omega) (by omega) dX10_comes_28 ?_
    rw [c2]
    refine G_il2 hC dX10_comes_29 ?_
    refine G_icmp_ne (tgt := 52) hC dX10_comes_30 (by decide) (by omega) (by omega) (fun c30 => ?_) (fun c30 => ?_)
    · exact G_vret hC hQ dX10_comes_52 ⟨rfl, rfl, rfl⟩
    · refine G_il3 hC dX10_comes_33 ?_
      refine G_al0 hC dX10_comes_34 ?_
      refine G_getR hC fl_X10_83 (by first | assumption | rfl) (by omega) (by first | assumption | exact hGr _ _ rfl) dX10_comes_35 ?_
      refine G_il4 hC dX10_comes_38 ?_
      refine G_ialoadN (n := k) hC (by first | assumption | rfl) (by omega) (by omega) (by omega) dX10_comes_40 ?_
      rw [c3]
      refine G_icmp_ge (tgt := 52) hC dX10_comes_41 (by decide) (by omega) (by omega) (fun c41 => ?_) (fun c41 => ?_)
      · exact G_vret hC hQ dX10_comes_52 ⟨rfl, rfl, rfl⟩
      · exact absurd (hle (by omega)) (by omega)
  · exact absurd c9 (by omega)
set_option maxHeartbeats 4000000 in
set_option maxRecDepth 100000 in
theorem c_X10_comes0 {l : Launch} {n st q : Nat} {f0 : Nat → Nat} {L : List BE} {s o : Int} {M : Mem} {P : PMem} (hGr : GrM P) (hL : MLi M n st f0 L) (hc : q < 46656) (hno : ∀ e ∈ L, cdF (dgf e.1) n ≠ q) (hlen : L.length < 720) : CtV l yX10_comes cX10_comes 5 none 1 23 77 [vR 45, vI q, vI s, vI o] M P (pV (adMM M q s o st L.length) P) := by
  refine Ct_of (own := RX10) (L := [vR 45, vI q, vI s, vI o, vX 1]) (by decide) rfl rfl (Nat.le_of_ble_eq_true rfl) (fun X Y hl hC hQ => ?_)
  obtain ⟨⟨h1, h2, h3⟩, ⟨h41, h42, h43⟩, h5, h6⟩ := id hL
  refine G_al0 hC dX10_comes_0 ?_
  refine G_il1 hC dX10_comes_1 ?_
  refine G_callVI hC (c_X10_index0 hGr hL hc hno) mv_X10_269 (by first | assumption | rfl) (by omega) (by decide) rfl (by decide) dX10_comes_2 rfl (Nat.le_of_ble_eq_true rfl) rfl (fun z2 M2 P2 h2 => ?_)
  obtain ⟨rfl, rfl, rfl⟩ := h2
  refine G_is4 hC dX10_comes_5 rfl ?_
  refine G_il4 hC dX10_comes_7 ?_
  refine G_if_ge (tgt := 22) hC dX10_comes_9 (by decide) (by omega) (fun c9 => ?_) (fun c9 => ?_)
  · exact absurd c9 (by omega)
  · refine G_al0 hC dX10_comes_12 ?_
    refine G_il1 hC dX10_comes_13 ?_
    refine G_il2 hC dX10_comes_14 ?_
    refine G_il3 hC dX10_comes_15 ?_
    refine G_callVV hC (c_X10_adds hGr h2 h1 hc hlen) mv_X10_256 (by first | assumption | rfl) (by omega) (by decide) rfl (by decide) dX10_comes_16 rfl (Nat.le_of_ble_eq_true rfl) rfl (fun M16 P16 h16 => ?_)
    obtain ⟨rfl, rfl⟩ := h16
    refine G_goto (tgt := 52) hC dX10_comes_19 (by decide) ?_
    exact G_vret hC hQ dX10_comes_52 ⟨rfl, rfl, rfl⟩
def bgI (M M1 : Mem) (st : Nat) (t : Nat) : Prop := (M1 45 37 = (st : Int) + 1 ∧ M1 45 41 = 0 ∧ M1 45 42 = (t : Int)) ∧ (∀ a, a ≠ 45 → ∀ b, M1 a b = M a b) ∧ ∀ b, b ≠ 37 → b ≠ 41 → b ≠ 42 → M1 45 b = M 45 b
theorem bgI_up {M M1 : Mem} {st t t' : Nat} {v : Int} (h : bgI M M1 st t) (hv : v = (t' : Int)) : bgI M (upM M1 45 42 v) st t' := by
  obtain ⟨⟨h1, h2, h3⟩, h4, h5⟩ := h
  exact ⟨⟨by rw [upM_nej (by omega)]; exact h1, by rw [upM_nej (by omega)]; exact h2, by rw [upM_self]; exact hv⟩, fun a ha b => by rw [upM_ne ha]; exact h4 a ha b, fun b q1 q2 q3 => by rw [upM_nej q3]; exact h5 b q1 q2 q3⟩
def blQ (M : Mem) (P : PMem) (n st : Nat) (f0 : Nat → Nat) (q0 : Nat) : Mem → PMem → Prop := fun M' P' => P = P' ∧ MLi M' n (st + 1) f0 [(q0, 0, 0)] ∧ lK M M'
set_option maxHeartbeats 4000000 in
set_option maxRecDepth 100000 in
theorem c_X10_beginsList {l : Launch} {n st c : Nat} {f0 f : Nat → Nat} {M : Mem} {P : PMem} (hGr : GrM P) (g0 : M 45 0 = (n : Int)) (hn6 : n ≤ 6) (hS : SpR M n f) (hf : lieN n f) (hi : injN n f) (hlo : lo8 f) (hth : thF f n = thF f0 n) (hm : qMk c M) (h37 : M 45 37 = (st : Int)) (hst9 : st < 100000) : CtV l yX10_beginsList cX10_beginsList 2 none 2 44 77 [vR 45] M P (blQ M P n st f0 (enc f)) := by
  refine Ct_of (own := RX10) (L := [vR 45, vX 1]) (by decide) rfl rfl (Nat.le_of_ble_eq_true rfl) (fun X Y hl hC hQ => ?_)
  have hlp : ∀ (c k : Nat) (kv : Int) (M1 : Mem), k + c = n → kv = (k : Int) → bgI M M1 st (thF f k) → G X Y 22 [vR 45, vI kv] [] M1 P := by
    intro c
    induction c with
    | zero =>
      intro k kv M1 hk e1 hB
      subst e1
      have hkn : k = n := by omega
      subst hkn
      obtain ⟨⟨b1, b2, b3⟩, b4, b5⟩ := id hB
      have h0 : M1 45 0 = (k : Int) := by rw [b5 0 (by omega) (by omega) (by omega)]; exact g0
      have hS1 : SpR M1 k f := fun g hg => by rw [b4 63 (by omega)]; exact hS g hg
      have hcl := cd_lt hn6 hf hi
      have hML : MLi M1 k (st + 1) f0 [] := ⟨⟨by rw [b2]; rfl, by rw [b1]; omega, by rw [b3, hth]⟩, ⟨by simp, by omega, by omega⟩, fun i e he => by simp at he, fun q hq _ => by
        rw [b4 67 (by omega)]
        have := hm.2.2 q hq
        rw [h37] at this
        omega⟩
      have hAd := adMM_R (x := (enc f, 0, 0)) hML (by simp) (by show cdF (dgf (enc f)) k < 46656; rw [cd_enc hn6 hlo]; exact hcl) (fun e he => by cases he)
      rw [show cdF (dgf ((enc f, 0, 0) : BE).1) k = cdF f k from cd_enc hn6 hlo] at hAd
      have hKl : lK M M1 := ⟨fun a q1 q2 q3 b => b4 a q1 b, b5⟩
      refine G_il1 hC dX10_beginsList_22 ?_
      refine G_al0 hC dX10_beginsList_23 ?_
      refine G_getI hC fl_X10_116 (by first | assumption | rfl) (by omega) dX10_beginsList_24 ?_
      rw [h0]
      refine G_icmp_ge (tgt := 67) hC dX10_beginsList_27 (by decide) (by omega) (by omega) (fun c27 => ?_) (fun c27 => ?_)
      · refine G_al0 hC dX10_beginsList_67 ?_
        refine G_al0 hC dX10_beginsList_68 ?_
        refine G_callVI hC (c_X10_codeNow hGr h0 hn6 hS1 hf) mv_X10_253 (by first | assumption | rfl) (by omega) (by decide) rfl (by decide) dX10_beginsList_69 rfl (Nat.le_of_ble_eq_true rfl) rfl (fun z69 M69 P69 h69 => ?_)
        obtain ⟨rfl, rfl, rfl⟩ := h69
        refine G_iconst hC dX10_beginsList_72 ?_
        refine G_iconst hC dX10_beginsList_73 ?_
        refine G_callVV hC (c_X10_adds (q := cdF f k) (st := st + 1) (l0 := 0) hGr (by rw [b1]; omega) (by rw [b2]; rfl) hcl (by omega)) mv_X10_256 (by first | assumption | rfl) (by omega) (by decide) rfl (by decide) dX10_beginsList_74 rfl (Nat.le_of_ble_eq_true rfl) rfl (fun M74 P74 h74 => ?_)
        obtain ⟨rfl, rfl⟩ := h74
        exact G_vret hC hQ dX10_beginsList_77 ⟨rfl, rfl, hAd.1, hKl.trans hAd.2⟩
      · exact absurd c27 (by omega)
    | succ c ih =>
      intro k kv M1 hk e1 hB
      subst e1
      obtain ⟨⟨b1, b2, b3⟩, b4, b5⟩ := id hB
      have h0 : M1 45 0 = (n : Int) := by rw [b5 0 (by omega) (by omega) (by omega)]; exact g0
      have hv : M1 63 k = nv (f k) := by rw [b4 63 (by omega)]; exact hS k (by omega)
      have hl := hf k (by omega)
      have htl := th_lt (f := f) k (fun g hg => hf g (by omega))
      by_cases h7 : f k = 7
      · have hv1 : nv (f k) = -1 := by unfold nv; rw [if_pos h7]
        refine G_il1 hC dX10_beginsList_22 ?_
        refine G_al0 hC dX10_beginsList_23 ?_
        refine G_getI hC fl_X10_116 (by first | assumption | rfl) (by omega) dX10_beginsList_24 ?_
        rw [h0]
        refine G_icmp_ge (tgt := 67) hC dX10_beginsList_27 (by decide) (by omega) (by omega) (fun c27 => ?_) (fun c27 => ?_)
        · exact absurd c27 (by omega)
        · refine G_al0 hC dX10_beginsList_30 ?_
          refine G_dup hC dX10_beginsList_31 rfl ?_
          refine G_getI hC fl_X10_241 (by first | assumption | rfl) (by omega) dX10_beginsList_32 ?_
          rw [b3]
          refine G_al0 hC dX10_beginsList_35 ?_
          refine G_getR hC fl_X10_61 (by first | assumption | rfl) (by omega) (by first | assumption | exact hGr _ _ rfl) dX10_beginsList_36 ?_
          refine G_il1 hC dX10_beginsList_39 ?_
          refine G_ialoadN (n := k) hC (by first | assumption | rfl) (by omega) (by omega) (by omega) dX10_beginsList_40 ?_
          rw [hv, hv1]
          refine G_iconst hC dX10_beginsList_41 ?_
          refine G_icmp_ne (tgt := 49) hC dX10_beginsList_42 (by decide) (by omega) (by omega) (fun c42 => ?_) (fun c42 => ?_)
          · exact absurd rfl c42
          · refine G_iconst hC dX10_beginsList_45 ?_
            refine G_goto (tgt := 57) hC dX10_beginsList_46 (by decide) ?_
            refine G_ior hC dX10_beginsList_57 ?_
            refine G_putI hC fl_X10_241 (by first | assumption | rfl) (by omega) dX10_beginsList_58 ?_
            refine G_inc1 hC dX10_beginsList_61 rfl ?_
            refine G_goto (tgt := 22) hC dX10_beginsList_64 (by decide) ?_
            exact ih (k + 1) _ _ (by omega) (by omega) (bgI_up hB (by
              rw [show (0 : Int) = ((0 : Nat) : Int) by rfl, bOr_n (by omega) (by omega)]
              show _ = ((thF f k ||| (if f k = 7 then 0 else 2 ^ f k) : Nat) : Int)
              rw [if_pos h7]))
      · have hv1 : nv (f k) = (f k : Int) := by unfold nv; rw [if_neg h7]
        have h6 : f k < 6 := by omega
        have hp2 : 2 ^ f k ≤ 2 ^ 5 := Nat.pow_le_pow_right (by omega) (by omega)
        refine G_il1 hC dX10_beginsList_22 ?_
        refine G_al0 hC dX10_beginsList_23 ?_
        refine G_getI hC fl_X10_116 (by first | assumption | rfl) (by omega) dX10_beginsList_24 ?_
        rw [h0]
        refine G_icmp_ge (tgt := 67) hC dX10_beginsList_27 (by decide) (by omega) (by omega) (fun c27 => ?_) (fun c27 => ?_)
        · exact absurd c27 (by omega)
        · refine G_al0 hC dX10_beginsList_30 ?_
          refine G_dup hC dX10_beginsList_31 rfl ?_
          refine G_getI hC fl_X10_241 (by first | assumption | rfl) (by omega) dX10_beginsList_32 ?_
          rw [b3]
          refine G_al0 hC dX10_beginsList_35 ?_
          refine G_getR hC fl_X10_61 (by first | assumption | rfl) (by omega) (by first | assumption | exact hGr _ _ rfl) dX10_beginsList_36 ?_
          refine G_il1 hC dX10_beginsList_39 ?_
          refine G_ialoadN (n := k) hC (by first | assumption | rfl) (by omega) (by omega) (by omega) dX10_beginsList_40 ?_
          rw [hv, hv1]
          refine G_iconst hC dX10_beginsList_41 ?_
          refine G_icmp_ne (tgt := 49) hC dX10_beginsList_42 (by decide) (by omega) (by omega) (fun c42 => ?_) (fun c42 => ?_)
          · refine G_iconst hC dX10_beginsList_49 ?_
            refine G_al0 hC dX10_beginsList_50 ?_
            refine G_getR hC fl_X10_61 (by first | assumption | rfl) (by omega) (by first | assumption | exact hGr _ _ rfl) dX10_beginsList_51 ?_
            refine G_il1 hC dX10_beginsList_54 ?_
            refine G_ialoadN (n := k) hC (by first | assumption | rfl) (by omega) (by omega) (by omega) dX10_beginsList_55 ?_
            rw [hv, hv1]
            refine G_ishl hC dX10_beginsList_56 ?_
            refine G_ior hC dX10_beginsList_57 ?_
            refine G_putI hC fl_X10_241 (by first | assumption | rfl) (by omega) dX10_beginsList_58 ?_
            refine G_inc1 hC dX10_beginsList_61 rfl ?_
            refine G_goto (tgt := 22) hC dX10_beginsList_64 (by decide) ?_
            exact ih (k + 1) _ _ (by omega) (by omega) (bgI_up hB (by
              rw [bShl1 (by omega), bOr_n (by omega) (by omega)]
              show _ = ((thF f k ||| (if f k = 7 then 0 else 2 ^ f k) : Nat) : Int)
              rw [if_neg h7]))
          · exact absurd c42 (by omega)
  refine G_al0 hC dX10_beginsList_0 ?_
  refine G_dup hC dX10_beginsList_1 rfl ?_
  refine G_getI hC fl_X10_247 (by first | assumption | rfl) (by omega) dX10_beginsList_2 ?_
  rw [h37]
  refine G_iconst hC dX10_beginsList_5 ?_
  refine G_iadd hC dX10_beginsList_6 ?_
  refine G_putI hC fl_X10_247 (by first | assumption | rfl) (by omega) dX10_beginsList_7 ?_
  refine G_al0 hC dX10_beginsList_10 ?_
  refine G_iconst hC dX10_beginsList_11 ?_
  refine G_putI hC fl_X10_250 (by first | assumption | rfl) (by omega) dX10_beginsList_12 ?_
  refine G_al0 hC dX10_beginsList_15 ?_
  refine G_iconst hC dX10_beginsList_16 ?_
  refine G_putI hC fl_X10_241 (by first | assumption | rfl) (by omega) dX10_beginsList_17 ?_
  refine G_iconst hC dX10_beginsList_20 ?_
  refine G_is1 hC dX10_beginsList_21 rfl ?_
  exact hlp n 0 _ _ (by omega) rfl ⟨⟨by rw [upM_nej (by omega), upM_nej (by omega), upM_self], by rw [upM_nej (by omega), upM_self], by rw [upM_self]; rfl⟩, fun a ha b => by rw [upM_ne ha, upM_ne ha, upM_ne ha], fun b q1 q2 q3 => by rw [upM_nej q3, upM_nej q2, upM_nej q1]⟩
theorem bnx_1 {T : TB} {e : BE} {i j : Nat} {bl : List BE} (h1 : can T (dgf e.1) i j) (h2 : ∀ x ∈ bl, x.1 ≠ enc (aft T (dgf e.1) i j)) : bnx T e i j bl = bl ++ [(enc (aft T (dgf e.1) i j), e.2.1 + 1, bop e i j)] := by unfold bnx; rw [if_pos ⟨h1, h2⟩]
theorem bnx_0 {T : TB} {e : BE} {i j : Nat} {bl : List BE} (h : ¬ (can T (dgf e.1) i j ∧ ∀ x ∈ bl, x.1 ≠ enc (aft T (dgf e.1) i j))) : bnx T e i j bl = bl := by unfold bnx; rw [if_neg h]
def faQ (M : Mem) (P : PMem) (T : TB) (st : Nat) (f0 : Nat → Nat) (q0 : Nat) : Mem → PMem → Prop := fun M' P' => P = P' ∧ MLi M' (tn T) (st + 1) f0 (FB T q0) ∧ lK M M'
set_option maxHeartbeats 4000000 in
set_option maxRecDepth 100000 in
theorem c_X10_findAll {l : Launch} {T : TB} {W f f0 lq : Nat → Nat} {N l0 st c : Nat} {M : Mem} {P : PMem} (hGr : GrM P) (hk : SkR M T W) (hX : KX T N lq f0) (hS : SpR M (tn T) f) (hlo : lo8 f) (hl0 : l0 < N) (hq : lq l0 = enc f) (hm : qMk c M) (h37 : M 45 37 = (st : Int)) (hst9 : st < 100000) : CtV l yX10_findAll cX10_findAll 5 none 3 77 77 [vR 45] M P (faQ M P T st f0 (enc f)) := by
  refine Ct_of (own := RX10) (L := [vR 45, vX 1, vX 1, vX 1, vX 1]) (by decide) rfl rfl (Nat.le_of_ble_eq_true rfl) (fun X Y hl hC hQ => ?_)
  obtain ⟨⟨k0, k2⟩, ⟨o2, o6, or1, oT⟩, kg⟩ := id hk
  obtain ⟨hgT, hLQ, hf0a, hf0b⟩ := id hX
  obtain ⟨t1, t2, t3, t4⟩ := id hgT
  have hfd : ∀ i, i < tn T → f i = dgf (lq l0) i := fun i hi => by rw [hq, dgf_enc hlo (by omega)]
  obtain ⟨d1, d2, d3, d4, d5, d6⟩ := KX_el hX hl0 rfl
  have hf : lieN (tn T) f := fun g hg => by rw [hfd g hg]; exact d1 g hg
  have hi : injN (tn T) f := fun a b ha hb => by rw [hfd a ha, hfd b hb]; exact d2 a b ha hb
  have hth : thF f (tn T) = thF f0 (tn T) := by rw [thF_congr (tn T) hfd]; exact d3
  obtain ⟨nn, hnn⟩ : ∃ nn, tn T * tn T = nn := ⟨_, rfl⟩
  have hnz : (tn T : Int) * (tn T : Int) = (nn : Int) := by rw [← hnn]; simp
  have hn36 : nn ≤ 36 := by rw [← hnn]; exact Nat.mul_le_mul t1 t1
  have hlpK : ∀ (c k : Nat) (kv : Int) (s : List BE × Nat) (M1 : Mem) (x2 x3 x4 : AV), k + c = 721 → kv = (k : Int) → (∃ m, s = bXn T m (st0 (lq l0))) → s.2 = k → BIv N lq s → MLi M1 (tn T) (st + 1) f0 s.1 → lK M M1 → G X Y 6 [vR 45, vI kv, x2, x3, x4] [] M1 P := by
    intro c
    induction c with
    | zero =>
      intro k kv s M1 x2 x3 x4 hkc e1 hs hs2 hB hML hKl
      have := hB.len
      have := hB.1
      omega
    | succ c ihK =>
      intro k kv s M1 x2 x3 x4 hkc e1 hs hs2 hB hML hKl
      subst e1
      have hlen := hB.len
      obtain ⟨m, hm1⟩ := hs
      by_cases hkl : k < s.1.length
      · obtain ⟨e, he⟩ : ∃ e, s.1[k]? = some e := ⟨s.1[k], List.getElem?_eq_getElem hkl⟩
        have heb := hB.2.2.2.2.1 k e he
        obtain ⟨le, hle1, hle2⟩ := hB.2.2.1 e (List.mem_of_getElem? he)
        obtain ⟨el1, el2, el3, el4, el5, el6⟩ := KX_el hX hle1 hle2
        have hlpA : ∀ (c2 a : Nat) (av : Int) (bl : List BE) (M2 : Mem) (x3 x4 : AV), a + c2 = nn → av = (a : Int) → MLi M2 (tn T) (st + 1) f0 bl → JI N lq e k (a / tn T) (a % tn T) bl → lK M M2 → bAn T e c2 a bl = bAn T e nn 0 s.1 → G X Y 16 [vR 45, vI k, vI av, x3, x4] [] M2 P := by
          intro c2
          induction c2 with
          | zero =>
            intro a av bl M2 x3 x4 ha e1 hML2 hJ hK2 hbA
            subst e1
            have hk2 := SkR_l hk hK2
            have z0 := hk2.1.1
            have hbl : bl = bI T e (tn T) 0 s.1 := by
              rw [bI_A, hnn, Nat.zero_mul]; exact hbA
            refine G_il2 hC dX10_findAll_16 ?_
            refine G_al0 hC dX10_findAll_17 ?_
            refine G_getI hC fl_X10_116 (by first | assumption | rfl) (by omega) dX10_findAll_18 ?_
            rw [z0]
            refine G_al0 hC dX10_findAll_21 ?_
            refine G_getI hC fl_X10_116 (by first | assumption | rfl) (by omega) dX10_findAll_22 ?_
            rw [z0]
            refine G_imul hC dX10_findAll_25 ?_
            rw [hnz]
            refine G_icmp_ge (tgt := 118) hC dX10_findAll_26 (by decide) (by omega) (by omega) (fun c26 => ?_) (fun c26 => ?_)
            · refine G_inc1 hC dX10_findAll_118 rfl ?_
              refine G_goto (tgt := 6) hC dX10_findAll_121 (by decide) ?_
              refine ihK (k + 1) _ (bX T s) _ _ _ _ (by omega) (by omega) ⟨m + 1, by rw [hm1]; exact (bXn_s m _).symm⟩ ?_ (BIv_X t1 t2 t3 hB) ?_ hK2
              · unfold bX; rw [hs2, he]
              · have hb : (bX T s).1 = bl := by unfold bX; rw [hs2, he]; exact hbl.symm
                rw [hb]; exact hML2
            · exact absurd c26 (by omega)
          | succ c2 ih =>
            intro a av bl M2 x3 x4 ha e1 hML2 hJ hK2 hbA
            subst e1
            have hk2 := SkR_l hk hK2
            have z0 := hk2.1.1
            obtain ⟨⟨l1, l2, l3⟩, ⟨l4, l5, l6⟩, l7, l8⟩ := id hML2
            obtain ⟨c1, c2', c3, c4⟩ := l7 k e hJ.1
            have hia : a / tn T < tn T := Nat.div_lt_of_lt_mul (by omega)
            have hja : a % tn T < tn T := Nat.mod_lt _ t2
            have hdi : (a : Int) / (tn T : Int) = ((a / tn T : Nat) : Int) := rfl
            have hmo : (a : Int) % (tn T : Int) = ((a % tn T : Nat) : Int) := rfl
            have hJn : JI N lq e k ((a + 1) / tn T) ((a + 1) % tn T) (bnx T e (a / tn T) (a % tn T) bl) := JI_A t1 t2 t3 1 a bl hJ
            have hbn : bAn T e c2 (a + 1) (bnx T e (a / tn T) (a % tn T) bl) = bAn T e nn 0 s.1 := hbA
            have hBn := JI_BIv hJn (fun z => heb.1.mp z)
            have hln := hBn.len
            generalize hgi : a / tn T = i at hia hdi hJ hJn hbn hBn hln
            generalize hgj : a % tn T = j at hja hmo hJ hJn hbn hBn hln
            by_cases hcan : can T (dgf e.1) i j
            · have hlo2 : lo8 (aft T (dgf e.1) i j) := aft_lo (dgf_lo _)
              obtain ⟨la, la1, la2⟩ := t3 le i j hle1 (by rw [hle2]; exact hcan)
              rw [hle2] at la2
              obtain ⟨ea1, ea2, ea3, ea4, ea5, ea6⟩ := KX_el hX la1 la2
              have hce : cdF (dgf (enc (aft T (dgf e.1) i j))) (tn T) = cdF (aft T (dgf e.1) i j) (tn T) := cd_enc t1 hlo2
              have hlie2 : lieN (tn T) (aft T (dgf e.1) i j) := fun g hg => by have := ea1 g hg; rw [dgf_enc hlo2 (by omega)] at this; exact this
              have hcm : ∀ (v : Int) (M3 : Mem), v = (bop e i j : Int) → MLi M3 (tn T) (st + 1) f0 bl → lK M M3 → G X Y 109 [vR 45, vI k, vI a, vI i, vI j] [vI v, vI ((e.2.1 : Int) + 1), vI (cdF (aft T (dgf e.1) i j) (tn T)), vR 45] M3 P := by
                intro v M3 hv hML3 hK3
                subst hv
                have hb55 : bop e i j ≤ 55 := by unfold bop; split <;> omega
                by_cases hnew : ∀ x ∈ bl, x.1 ≠ enc (aft T (dgf e.1) i j)
                · rw [bnx_1 hcan hnew] at hJn hbn hBn hln
                  have hno : ∀ x ∈ bl, cdF (dgf x.1) (tn T) ≠ cdF (aft T (dgf e.1) i j) (tn T) := fun x hx z => by
                    obtain ⟨lx, lx1, lx2⟩ := hJ.2.2.1 x hx
                    rw [← hce, ← la2, ← lx2] at z
                    have := KX_inj hX lx1 la1 z
                    exact hnew x hx (by rw [← lx2, this, la2])
                  have hl7 : bl.length < 720 := by simp at hln; omega
                  have hAd := adMM_R (x := (enc (aft T (dgf e.1) i j), e.2.1 + 1, bop e i j)) hML3 hl7 ea4 (fun x hx => by show _ ≠ cdF (dgf (enc _)) _; rw [hce]; exact hno x hx)
                  have hAe : adMM M3 (cdF (dgf ((enc (aft T (dgf e.1) i j), e.2.1 + 1, bop e i j) : BE).1) (tn T)) (((enc (aft T (dgf e.1) i j), e.2.1 + 1, bop e i j) : BE).2.1 : Int) (((enc (aft T (dgf e.1) i j), e.2.1 + 1, bop e i j) : BE).2.2 : Int) (st + 1) bl.length = adMM M3 (cdF (aft T (dgf e.1) i j) (tn T)) ((e.2.1 : Int) + 1) (bop e i j) (st + 1) bl.length := by
                    show adMM M3 (cdF (dgf (enc (aft T (dgf e.1) i j))) (tn T)) ((e.2.1 + 1 : Nat) : Int) (bop e i j) (st + 1) bl.length = _
                    rw [hce]; rfl
                  rw [hAe] at hAd
                  refine G_callVV hC (c_X10_comes0 hGr hML3 (by rw [← hce]; exact ea4) hno hl7) mv_X10_266 (by first | assumption | rfl) (by omega) (by decide) rfl (by decide) dX10_findAll_109 rfl (Nat.le_of_ble_eq_true rfl) rfl (fun M109 P109 h109 => ?_)
                  obtain ⟨rfl, rfl⟩ := h109
                  refine G_inc2 hC dX10_findAll_112 rfl ?_
                  refine G_goto (tgt := 16) hC dX10_findAll_115 (by decide) ?_
                  exact ih (a + 1) _ _ _ _ _ (by omega) (by omega) hAd.1 hJn (hK3.trans hAd.2) hbn
                · rw [bnx_0 (fun z => hnew z.2)] at hJn hbn
                  obtain ⟨x, hx, hxe⟩ : ∃ x, x ∈ bl ∧ x.1 = enc (aft T (dgf e.1) i j) := Classical.byContradiction fun z => hnew (fun x hx e2 => z ⟨x, hx, e2⟩)
                  obtain ⟨kx, hkx⟩ := List.getElem?_of_mem hx
                  have hx5 := hJ.2.2.2.2.1 kx x hkx
                  have hx6 := hJ.2.2.2.2.2 x hx
                  refine G_callVV hC (c_X10_comes1 (e := x) (k := kx) hGr hML3 hkx (by rw [hxe]; exact ea4) (by rw [hxe, hce]) (by omega) (by omega) (by omega) (fun z => by have := hx6.2 (by omega); omega)) mv_X10_266 (by first | assumption | rfl) (by omega) (by decide) rfl (by decide) dX10_findAll_109 rfl (Nat.le_of_ble_eq_true rfl) rfl (fun M109 P109 h109 => ?_)
                  obtain ⟨rfl, rfl⟩ := h109
                  refine G_inc2 hC dX10_findAll_112 rfl ?_
                  refine G_goto (tgt := 16) hC dX10_findAll_115 (by decide) ?_
                  exact ih (a + 1) _ _ _ _ _ (by omega) (by omega) hML3 hJn hK3 hbn
              refine G_il2 hC dX10_findAll_16 ?_
              refine G_al0 hC dX10_findAll_17 ?_
              refine G_getI hC fl_X10_116 (by first | assumption | rfl) (by omega) dX10_findAll_18 ?_
              rw [z0]
              refine G_al0 hC dX10_findAll_21 ?_
              refine G_getI hC fl_X10_116 (by first | assumption | rfl) (by omega) dX10_findAll_22 ?_
              rw [z0]
              refine G_imul hC dX10_findAll_25 ?_
              rw [hnz]
              refine G_icmp_ge (tgt := 118) hC dX10_findAll_26 (by decide) (by omega) (by omega) (fun c26 => ?_) (fun c26 => ?_)
              · exact absurd c26 (by omega)
              · refine G_al0 hC dX10_findAll_29 ?_
                refine G_al0 hC dX10_findAll_30 ?_
                refine G_getR hC fl_X10_77 (by first | assumption | rfl) (by omega) (by first | assumption | exact hGr _ _ rfl) dX10_findAll_31 ?_
                refine G_il1 hC dX10_findAll_34 ?_
                refine G_ialoadN (n := k) hC (by first | assumption | rfl) (by omega) (by omega) (by omega) dX10_findAll_35 ?_
                rw [c1]
                refine G_callVV hC (c_X10_loads hGr z0 t1 (by rw [el3]; exact l3) el1 el2) mv_X10_263 (by first | assumption | rfl) (by omega) (by decide) rfl (by decide) dX10_findAll_36 rfl (Nat.le_of_ble_eq_true rfl) rfl (fun M36 P36 h36 => ?_)
                obtain ⟨rfl, p1, p2⟩ := h36
                have hK3 := hK2.trans (lK_63 p2)
                have hML3 := MLi_63 hML2 p2
                have hk3 := SkR_l hk hK3
                have y0 := hk3.1.1
                refine G_il2 hC dX10_findAll_39 ?_
                refine G_al0 hC dX10_findAll_40 ?_
                refine G_getI hC fl_X10_116 (by first | assumption | rfl) (by omega) dX10_findAll_41 ?_
                rw [y0]
                refine G_idiv hC dX10_findAll_44 (by omega) (by omega) ?_
                rw [hdi]
                refine G_is3 hC dX10_findAll_45 rfl ?_
                refine G_il2 hC dX10_findAll_46 ?_
                refine G_al0 hC dX10_findAll_47 ?_
                refine G_getI hC fl_X10_116 (by first | assumption | rfl) (by omega) dX10_findAll_48 ?_
                rw [y0]
                refine G_irem hC dX10_findAll_51 (by omega) (by omega) ?_
                rw [hmo]
                refine G_is4 hC dX10_findAll_52 rfl ?_
                refine G_al0 hC dX10_findAll_54 ?_
                refine G_il3 hC dX10_findAll_55 ?_
                refine G_il4 hC dX10_findAll_56 ?_
                refine G_callVI hC (c_X10_mayAsk (i := i) (j := j) hGr hk3 p1 el1 hia hja) mv_X10_223 (by first | assumption | rfl) (by omega) (by decide) rfl (by decide) dX10_findAll_58 rfl (Nat.le_of_ble_eq_true rfl) rfl (fun z58 M58 P58 h58 => ?_)
                obtain ⟨rfl, rfl, rfl⟩ := h58
                rw [canI_1 hcan]
                refine G_if_eq (tgt := 112) hC dX10_findAll_61 (by decide) (by omega) (fun c61 => ?_) (fun c61 => ?_)
                · exact absurd c61 (by omega)
                · refine G_al0 hC dX10_findAll_64 ?_
                  refine G_il3 hC dX10_findAll_65 ?_
                  refine G_il4 hC dX10_findAll_66 ?_
                  refine G_callVV hC (c_X10_asks (i := i) (j := j) hGr hk3 p1 el1 hia hja hcan.1) mv_X10_230 (by first | assumption | rfl) (by omega) (by decide) rfl (by decide) dX10_findAll_68 rfl (Nat.le_of_ble_eq_true rfl) rfl (fun M68 P68 h68 => ?_)
                  obtain ⟨rfl, a1, a2⟩ := h68
                  have hK4 := hK3.trans (lK_63 a2)
                  have hML4 := MLi_63 hML3 a2
                  have hk4 := SkR_l hk hK4
                  have w0 := hk4.1.1
                  obtain ⟨f1, f2, f3, f4⟩ := hML4.2.2.1 k e hJ.1
                  refine G_al0 hC dX10_findAll_71 ?_
                  refine G_al0 hC dX10_findAll_72 ?_
                  refine G_callVI hC (c_X10_codeNow hGr w0 t1 a1 hlie2) mv_X10_253 (by first | assumption | rfl) (by omega) (by decide) rfl (by decide) dX10_findAll_73 rfl (Nat.le_of_ble_eq_true rfl) rfl (fun z73 M73 P73 h73 => ?_)
                  obtain ⟨rfl, rfl, rfl⟩ := h73
                  refine G_al0 hC dX10_findAll_76 ?_
                  refine G_getR hC fl_X10_80 (by first | assumption | rfl) (by omega) (by first | assumption | exact hGr _ _ rfl) dX10_findAll_77 ?_
                  refine G_il1 hC dX10_findAll_80 ?_
                  refine G_ialoadN (n := k) hC (by first | assumption | rfl) (by omega) (by omega) (by omega) dX10_findAll_81 ?_
                  rw [f2]
                  refine G_iconst hC dX10_findAll_82 ?_
                  refine G_iadd hC dX10_findAll_83 ?_
                  refine G_al0 hC dX10_findAll_84 ?_
                  refine G_getR hC fl_X10_80 (by first | assumption | rfl) (by omega) (by first | assumption | exact hGr _ _ rfl) dX10_findAll_85 ?_
                  refine G_il1 hC dX10_findAll_88 ?_
                  refine G_ialoadN (n := k) hC (by first | assumption | rfl) (by omega) (by omega) (by omega) dX10_findAll_89 ?_
                  rw [f2]
                  refine G_if_ne (tgt := 103) hC dX10_findAll_90 (by decide) (by omega) (fun c90 => ?_) (fun c90 => ?_)
                  · refine G_al0 hC dX10_findAll_103 ?_
                    refine G_getR hC fl_X10_83 (by first | assumption | rfl) (by omega) (by first | assumption | exact hGr _ _ rfl) dX10_findAll_104 ?_
                    refine G_il1 hC dX10_findAll_107 ?_
                    refine G_ialoadN (n := k) hC (by first | assumption | rfl) (by omega) (by omega) (by omega) dX10_findAll_108 ?_
                    first | exact hcm _ _ (by unfold bop; rw [if_pos (by omega)]; omega) hML4 hK4 | exact hcm _ _ (by unfold bop; rw [if_neg (by omega)]; exact f3) hML4 hK4
                  · refine G_bipush hC dX10_findAll_93 (by decide) ?_
                    refine G_il3 hC dX10_findAll_95 ?_
                    refine G_imul hC dX10_findAll_96 ?_
                    refine G_il4 hC dX10_findAll_97 ?_
                    refine G_iadd hC dX10_findAll_99 ?_
                    refine G_goto (tgt := 109) hC dX10_findAll_100 (by decide) ?_
                    first | exact hcm _ _ (by unfold bop; rw [if_pos (by omega)]; omega) hML4 hK4 | exact hcm _ _ (by unfold bop; rw [if_neg (by omega)]; exact f3) hML4 hK4
            · rw [bnx_0 (fun z => hcan z.1)] at hJn hbn
              refine G_il2 hC dX10_findAll_16 ?_
              refine G_al0 hC dX10_findAll_17 ?_
              refine G_getI hC fl_X10_116 (by first | assumption | rfl) (by omega) dX10_findAll_18 ?_
              rw [z0]
              refine G_al0 hC dX10_findAll_21 ?_
              refine G_getI hC fl_X10_116 (by first | assumption | rfl) (by omega) dX10_findAll_22 ?_
              rw [z0]
              refine G_imul hC dX10_findAll_25 ?_
              rw [hnz]
              refine G_icmp_ge (tgt := 118) hC dX10_findAll_26 (by decide) (by omega) (by omega) (fun c26 => ?_) (fun c26 => ?_)
              · exact absurd c26 (by omega)
              · refine G_al0 hC dX10_findAll_29 ?_
                refine G_al0 hC dX10_findAll_30 ?_
                refine G_getR hC fl_X10_77 (by first | assumption | rfl) (by omega) (by first | assumption | exact hGr _ _ rfl) dX10_findAll_31 ?_
                refine G_il1 hC dX10_findAll_34 ?_
                refine G_ialoadN (n := k) hC (by first | assumption | rfl) (by omega) (by omega) (by omega) dX10_findAll_35 ?_
                rw [c1]
                refine G_callVV hC (c_X10_loads hGr z0 t1 (by rw [el3]; exact l3) el1 el2) mv_X10_263 (by first | assumption | rfl) (by omega) (by decide) rfl (by decide) dX10_findAll_36 rfl (Nat.le_of_ble_eq_true rfl) rfl (fun M36 P36 h36 => ?_)
                obtain ⟨rfl, p1, p2⟩ := h36
                have hK3 := hK2.trans (lK_63 p2)
                have hML3 := MLi_63 hML2 p2
                have hk3 := SkR_l hk hK3
                have y0 := hk3.1.1
                refine G_il2 hC dX10_findAll_39 ?_
                refine G_al0 hC dX10_findAll_40 ?_
                refine G_getI hC fl_X10_116 (by first | assumption | rfl) (by omega) dX10_findAll_41 ?_
                rw [y0]
                refine G_idiv hC dX10_findAll_44 (by omega) (by omega) ?_
                rw [hdi]
                refine G_is3 hC dX10_findAll_45 rfl ?_
                refine G_il2 hC dX10_findAll_46 ?_
                refine G_al0 hC dX10_findAll_47 ?_
                refine G_getI hC fl_X10_116 (by first | assumption | rfl) (by omega) dX10_findAll_48 ?_
                rw [y0]
                refine G_irem hC dX10_findAll_51 (by omega) (by omega) ?_
                rw [hmo]
                refine G_is4 hC dX10_findAll_52 rfl ?_
                refine G_al0 hC dX10_findAll_54 ?_
                refine G_il3 hC dX10_findAll_55 ?_
                refine G_il4 hC dX10_findAll_56 ?_
                refine G_callVI hC (c_X10_mayAsk (i := i) (j := j) hGr hk3 p1 el1 hia hja) mv_X10_223 (by first | assumption | rfl) (by omega) (by decide) rfl (by decide) dX10_findAll_58 rfl (Nat.le_of_ble_eq_true rfl) rfl (fun z58 M58 P58 h58 => ?_)
                obtain ⟨rfl, rfl, rfl⟩ := h58
                rw [canI_0 hcan]
                refine G_if_eq (tgt := 112) hC dX10_findAll_61 (by decide) (by omega) (fun c61 => ?_) (fun c61 => ?_)
                · refine G_inc2 hC dX10_findAll_112 rfl ?_
                  refine G_goto (tgt := 16) hC dX10_findAll_115 (by decide) ?_
                  exact ih (a + 1) _ _ _ _ _ (by omega) (by omega) hML3 hJn hK3 hbn
                · exact absurd rfl c61
        refine G_il1 hC dX10_findAll_6 ?_
        refine G_al0 hC dX10_findAll_7 ?_
        refine G_getI hC fl_X10_250 (by first | assumption | rfl) (by omega) dX10_findAll_8 ?_
        rw [hML.1.1]
        refine G_icmp_ge (tgt := 124) hC dX10_findAll_11 (by decide) (by omega) (by omega) (fun c11 => ?_) (fun c11 => ?_)
        · exact absurd c11 (by omega)
        · refine G_iconst hC dX10_findAll_14 ?_
          refine G_is2 hC dX10_findAll_15 rfl ?_
          exact hlpA nn 0 _ s.1 M1 _ _ (by omega) rfl hML (by rw [Nat.zero_div, Nat.zero_mod]; have := BIv_JI hB (e := e) (by rw [hs2]; exact he); rw [hs2] at this; exact this) hKl rfl
      · have hMLf : MLi M1 (tn T) (st + 1) f0 (FB T (enc f)) := by
          rw [← hq, FB_end (m := m) hgT hl0 (by rw [← hm1]; omega), ← hm1]; exact hML
        refine G_il1 hC dX10_findAll_6 ?_
        refine G_al0 hC dX10_findAll_7 ?_
        refine G_getI hC fl_X10_250 (by first | assumption | rfl) (by omega) dX10_findAll_8 ?_
        rw [hML.1.1]
        refine G_icmp_ge (tgt := 124) hC dX10_findAll_11 (by decide) (by omega) (by omega) (fun c11 => ?_) (fun c11 => ?_)
        · exact G_vret hC hQ dX10_findAll_124 ⟨rfl, rfl, hMLf, hKl⟩
        · exact absurd c11 (by omega)
  refine G_al0 hC dX10_findAll_0 ?_
  refine G_callVV hC (c_X10_beginsList (f0 := f0) hGr k0 t1 hS hf hi hlo hth hm h37 hst9) mv_X10_260 (by first | assumption | rfl) (by omega) (by decide) rfl (by decide) dX10_findAll_1 rfl (Nat.le_of_ble_eq_true rfl) rfl (fun M1 P1 h1 => ?_)
  obtain ⟨rfl, v1, v2⟩ := h1
  refine G_iconst hC dX10_findAll_4 ?_
  refine G_is1 hC dX10_findAll_5 rfl ?_
  exact hlpK 721 0 _ (st0 (lq l0)) M1 _ _ _ (by omega) rfl ⟨0, rfl⟩ rfl (BIv_0 hl0) (by rw [hq]; exact v1) v2
