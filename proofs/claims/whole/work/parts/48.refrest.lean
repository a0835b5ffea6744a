/-! the reference: never, stuck, rest -/
theorem nd_rc {T : TB} {q g d : Nat} : (ndF T q g d = -4) ↔ ¬ rcP T q g d := by
  unfold ndF rcP
  by_cases h : ∃ e ∈ FB T q, dgf e.1 g = d
  · obtain ⟨x, hx, hp⟩ := id h
    obtain ⟨k, e, he⟩ := FST_ex (Pd := fun x => dgf x.1 g = d) (FB T q) x hx hp
    rw [fstN_1 he]
    exact ⟨fun z => by have z' : (e.2.1 : Int) = -4 := z; omega, fun z => absurd h z⟩
  · rw [fstN_0 (fun x hx z => h ⟨x, hx, z⟩)]
    exact ⟨fun _ => h, fun _ => rfl⟩
theorem nvF_n1 {T : TB} {q g d : Nat} (h : rcP T q g d) : nvF T q g (d + 1) = nvF T q g d := by rw [nvF, if_pos h]; rfl
theorem nvF_n0 {T : TB} {q g d : Nat} (h : ¬ rcP T q g d) : nvF T q g (d + 1) = nvF T q g d + 2 ^ d := by rw [nvF, if_neg h]
set_option maxHeartbeats 4000000 in
set_option maxRecDepth 100000 in
theorem c_X10_never {l : Launch} {c : Nat} {S : AS} {N : Nat} {lq : Nat → Nat} {i : Int} {M : Mem} {P : PMem} (hS : SOK c S) (hK : TOK S) (hI : MIv c M P S) (hLk : lkR S N lq) (hc5 : c ≤ 520) (hi : i32r i)  : CtI l yX10_never cX10_never 4 (some .int) 4 101 77 [vR 45, vI i] M P (mR (c + 1) M P S (neverS S i)) := by
  refine Ct_of (own := RX10) (L := [vR 45, vI i, vX 1, vX 1]) (by decide) rfl rfl (Nat.le_of_ble_eq_true rfl) (fun X Y hl hC hQ => ?_)
  obtain ⟨hGr, ⟨⟨g0, g1, g2, g3, g4⟩, g5⟩, ⟨g6, g7⟩, g8, g9, ⟨g10, g11⟩, g12⟩ := id hI
  obtain ⟨s1, ⟨s2, s3, s4, s5, s6, s7, s8⟩, ⟨s9, s10, s11, s12⟩, s13, s14, s15, s16, s17, s18⟩ := id hS
  obtain ⟨m1, m2, m3, m4⟩ := id s14
  have hX := lk_KX hS hLk (T' := sT S) rfl
  have hlo := m1.lo
  obtain ⟨l0, hl0, hq⟩ := lk_at (c := c) hLk hlo m2
  obtain ⟨st, hst⟩ : ∃ st : Nat, M 45 37 = (st : Int) := ⟨(M 45 37).toNat, by have := g12.1; omega⟩
  have hstc : st ≤ 16 * c := by have := g12.2.1; omega
  unfold i32r at *
  by_cases hg : isG S i
  · obtain ⟨g, rfl⟩ : ∃ g : Nat, i = (g : Int) := ⟨i.toNat, by have := hg.1; omega⟩
    have hg2 := hg.2
    refine G_al0 hC dX10_never_0 ?_
    refine G_il1 hC dX10_never_1 ?_
    refine G_callVI hC (c_X10_isGuest1 hS hI (by unfold i32r; omega) hg) mv_X10_192 (by first | assumption | rfl) (by omega) (by decide) rfl (by decide) dX10_never_2 rfl (Nat.le_of_ble_eq_true rfl) rfl (fun z2 M2 P2 h2 => ?_)
    obtain ⟨rfl, rfl, rfl⟩ := h2
    refine G_if_ne (tgt := 10) hC dX10_never_5 (by decide) (by omega) (fun c5 => ?_) (fun c5 => ?_)
    · refine G_al0 hC dX10_never_10 ?_
      refine G_callVV hC (c_X10_sits hGr g0 s7) mv_X10_220 (by first | assumption | rfl) (by omega) (by decide) rfl (by decide) dX10_never_11 rfl (Nat.le_of_ble_eq_true rfl) rfl (fun M11 P11 h11 => ?_)
      obtain ⟨rfl, v0⟩ := h11
      obtain ⟨v1, v2⟩ := si_R hS hK hI v0
      obtain ⟨v3, v4⟩ := siI_M hI v0
      have v37 : M11 45 37 = (st : Int) := by rw [v0.2.2 45 (by omega)]; exact hst
      refine G_al0 hC dX10_never_14 ?_
      refine G_callVV hC (c_X10_findAll hGr v1 hX v2 hlo hl0 hq v3.2.2.2.2.2.2 v37 (by omega)) mv_X10_272 (by first | assumption | rfl) (by omega) (by decide) rfl (by decide) dX10_never_15 rfl (Nat.le_of_ble_eq_true rfl) rfl (fun M15 P15 h15 => ?_)
      obtain ⟨rfl, fa1, fa2⟩ := h15
      obtain ⟨w1, w2⟩ := MIv_l (c' := c + 1) v3 fa2 fa1 (by omega)
      obtain ⟨L, hLe, hFd, hFm, hFs, hFh, hFl, hFf, hFg⟩ := FB_all hX hl0
      rw [← hq, ← hLe] at fa1
      have hex : eqx mdX M M15 := v4.trans w2
      have hlp : ∀ (c2 k : Nat) (kv sv : Int), k + c2 = sNd S → kv = (k : Int) → sv = (nvF (sT S) (lq l0) g k : Int) → G X Y 22 [vR 45, vI g, vI sv, vI kv] [] M15 P := by
        intro c2
        induction c2 with
        | zero =>
          intro k kv sv hk e1 e2
          subst e1; subst e2
          have hkn : k = sNd S := by omega
          have n1 : M15 45 1 = (k : Int) := by rw [hkn]; exact w1.2.1.1.2.1
          refine G_il3 hC dX10_never_22 ?_
          refine G_al0 hC dX10_never_23 ?_
          refine G_getI hC fl_X10_123 (by first | assumption | rfl) (by omega) dX10_never_24 ?_
          rw [n1]
          refine G_icmp_ge (tgt := 57) hC dX10_never_27 (by decide) (by omega) (by omega) (fun c27 => ?_) (fun c27 => ?_)
          · refine G_il2 hC dX10_never_57 ?_
            exact G_iret hC hQ dX10_never_58 ⟨_, rfl, rfl, by unfold neverS; rw [if_pos hg, hkn, hq]; simp, w1, hex⟩
          · exact absurd c27 (by omega)
        | succ c2 ih =>
          intro k kv sv hk e1 e2
          subst e1; subst e2
          have n1 : M15 45 1 = (sNd S : Int) := w1.2.1.1.2.1
          have hnl := nvF_lt (T := sT S) (q := lq l0) (g := g) k
          have hp5 : 2 ^ k ≤ 2 ^ 5 := Nat.pow_le_pow_right (by omega) (by omega)
          have hor : nvF (sT S) (lq l0) g k ||| 2 ^ k = nvF (sT S) (lq l0) g k + 2 ^ k := by
            have := Nat.two_pow_add_eq_or_of_lt hnl 1
            rw [Nat.mul_one] at this
            rw [Nat.or_comm, ← this, Nat.add_comm]
          have hnd := nd_mn (g := g) (d := k) hLe hFs
          have hmr := mnL_r (Pd := fun x => dgf x.1 g = k) hFf L.length
          have hrc := nd_rc (T := sT S) (q := lq l0) (g := g) (d := k)
          rw [← hnd] at hrc
          obtain ⟨ndv, hndv⟩ : ∃ v, v = mnL (fun x => dgf x.1 g = k) L L.length := ⟨_, rfl⟩
          rw [← hndv] at hmr hrc
          refine G_il3 hC dX10_never_22 ?_
          refine G_al0 hC dX10_never_23 ?_
          refine G_getI hC fl_X10_123 (by first | assumption | rfl) (by omega) dX10_never_24 ?_
          rw [n1]
          refine G_icmp_ge (tgt := 57) hC dX10_never_27 (by decide) (by omega) (by omega) (fun c27 => ?_) (fun c27 => ?_)
          · exact absurd c27 (by omega)
          · refine G_il2 hC dX10_never_30 ?_
            refine G_al0 hC dX10_never_31 ?_
            refine G_il1 hC dX10_never_32 ?_
            refine G_il3 hC dX10_never_33 ?_
            refine G_callVI hC (c_X10_needOf (i := g) (d := k) hGr hX fa1 hFm hFf (by omega) (by omega)) mv_X10_275 (by first | assumption | rfl) (by omega) (by decide) rfl (by decide) dX10_never_34 rfl (Nat.le_of_ble_eq_true rfl) rfl (fun z34 M34 P34 h34 => ?_)
            obtain ⟨rfl, rfl, rfl⟩ := h34
            rw [← hndv]
            refine G_bipush hC dX10_never_37 (by decide) ?_
            refine G_icmp_ne (tgt := 48) hC dX10_never_39 (by decide) (by omega) (by omega) (fun c39 => ?_) (fun c39 => ?_)
            · refine G_iconst hC dX10_never_48 ?_
              refine G_ior hC dX10_never_49 ?_
              refine G_is2 hC dX10_never_50 rfl ?_
              refine G_inc3 hC dX10_never_51 rfl ?_
              refine G_goto (tgt := 22) hC dX10_never_54 (by decide) ?_
              first
                | exact ih (k + 1) _ _ (by omega) (by omega) (by
                    rw [bShl1 (by omega), bOr_n (by omega) (by omega), hor]
                    rw [nvF_n0 (hrc.mp (by omega))])
                | exact ih (k + 1) _ _ (by omega) (by omega) (by
                    rw [show (0 : Int) = ((0 : Nat) : Int) by rfl, bOr_n (by omega) (by omega)]
                    rw [nvF_n1 (Classical.not_not.mp (fun z => c39 (hrc.mpr z)))]
                    simp)
            · refine G_iconst hC dX10_never_42 ?_
              refine G_il3 hC dX10_never_43 ?_
              refine G_ishl hC dX10_never_44 ?_
              refine G_goto (tgt := 49) hC dX10_never_45 (by decide) ?_
              refine G_ior hC dX10_never_49 ?_
              refine G_is2 hC dX10_never_50 rfl ?_
              refine G_inc3 hC dX10_never_51 rfl ?_
              refine G_goto (tgt := 22) hC dX10_never_54 (by decide) ?_
              first
                | exact ih (k + 1) _ _ (by omega) (by omega) (by
                    rw [bShl1 (by omega), bOr_n (by omega) (by omega), hor]
                    rw [nvF_n0 (hrc.mp (by omega))])
                | exact ih (k + 1) _ _ (by omega) (by omega) (by
                    rw [show (0 : Int) = ((0 : Nat) : Int) by rfl, bOr_n (by omega) (by omega)]
                    rw [nvF_n1 (Classical.not_not.mp (fun z => c39 (hrc.mpr z)))]
                    simp)
      refine G_iconst hC dX10_never_18 ?_
      refine G_is2 hC dX10_never_19 rfl ?_
      refine G_iconst hC dX10_never_20 ?_
      refine G_is3 hC dX10_never_21 rfl ?_
      exact hlp (sNd S) 0 _ _ (by omega) rfl rfl
    · exact absurd c5 (by omega)
  · refine G_al0 hC dX10_never_0 ?_
    refine G_il1 hC dX10_never_1 ?_
    refine G_callVI hC (c_X10_isGuest0 hS hI (by unfold i32r; omega) hg) mv_X10_192 (by first | assumption | rfl) (by omega) (by decide) rfl (by decide) dX10_never_2 rfl (Nat.le_of_ble_eq_true rfl) rfl (fun z2 M2 P2 h2 => ?_)
    obtain ⟨rfl, rfl, rfl⟩ := h2
    refine G_if_ne (tgt := 10) hC dX10_never_5 (by decide) (by omega) (fun c5 => ?_) (fun c5 => ?_)
    · exact absurd rfl c5
    · refine G_iconst hC dX10_never_8 ?_
      exact G_iret hC hQ dX10_never_9 ⟨_, rfl, rfl, by unfold neverS; rw [if_neg (fun z => hg z)], hI.mono (by omega), eqx.refl⟩
theorem bnx_in {T : TB} {e : BE} {i j : Nat} {bl : List BE} (h : can T (dgf e.1) i j) : ∃ x ∈ bnx T e i j bl, x.1 = enc (aft T (dgf e.1) i j) := by
  by_cases hn : ∀ x ∈ bl, x.1 ≠ enc (aft T (dgf e.1) i j)
  · rw [bnx_1 h hn]; exact ⟨_, List.mem_append_right _ (List.mem_singleton.mpr rfl), rfl⟩
  · rw [bnx_0 (fun z => hn z.2)]
    exact Classical.byContradiction fun z => hn (fun x hx e2 => z ⟨x, hx, e2⟩)
theorem bnx_sub {T : TB} {e x : BE} {i j : Nat} {bl : List BE} (h : x ∈ bl) : x ∈ bnx T e i j bl := by
  obtain ⟨k, hk⟩ := List.getElem?_of_mem h
  exact List.mem_of_getElem? (bnx_mem hk)
theorem bAn_sub {T : TB} {e x : BE} : ∀ c a (bl : List BE), x ∈ bl → x ∈ bAn T e c a bl
  | 0, _, _, h => h
  | c + 1, a, bl, h => bAn_sub c (a + 1) _ (bnx_sub h)
theorem bAn_in {T : TB} {e : BE} {a' : Nat} : ∀ c a (bl : List BE), a ≤ a' → a' < a + c → can T (dgf e.1) (a' / tn T) (a' % tn T) → ∃ x ∈ bAn T e c a bl, x.1 = enc (aft T (dgf e.1) (a' / tn T) (a' % tn T))
  | 0, a, bl, h1, h2, _ => by omega
  | c + 1, a, bl, h1, h2, hc => by
    by_cases q : a' = a
    · subst q
      obtain ⟨x, hx, hx2⟩ := bnx_in (bl := bl) hc
      exact ⟨x, bAn_sub c (a' + 1) _ hx, hx2⟩
    · exact bAn_in c (a + 1) _ (by omega) (by omega) hc
theorem bI_in {T : TB} {e : BE} {i j : Nat} {bl : List BE} (h : can T (dgf e.1) i j) : ∃ x ∈ bI T e (tn T) 0 bl, x.1 = enc (aft T (dgf e.1) i j) := by
  have hi := h.2.1
  have hj := h.2.2.1
  have d1 : (i * tn T + j) / tn T = i := by rw [Nat.mul_comm, Nat.mul_add_div (by omega), Nat.div_eq_of_lt (by omega)]; omega
  have d2 : (i * tn T + j) % tn T = j := by rw [Nat.mul_comm, Nat.mul_add_mod, Nat.mod_eq_of_lt (by omega)]
  have hlt : i * tn T + j < tn T * tn T := by
    have : (i + 1) * tn T ≤ tn T * tn T := Nat.mul_le_mul_right _ hi
    rw [Nat.succ_mul] at this
    omega
  rw [bI_A, Nat.zero_mul]
  have := bAn_in (T := T) (e := e) (a' := i * tn T + j) (tn T * tn T) 0 bl (by omega) (by omega) (by rw [d1, d2]; exact h)
  rw [d1, d2] at this
  exact this
def bCl (T : TB) (s : List BE × Nat) : Prop := ∀ (o : Nat) (e : BE), o < s.2 → s.1[o]? = some e → ∀ i j, can T (dgf e.1) i j → ∃ x ∈ s.1, x.1 = enc (aft T (dgf e.1) i j)
theorem bCl_X {T : TB} {s : List BE × Nat} (hs : s.2 ≤ s.1.length) (h : bCl T s) : bCl T (bX T s) := by
  unfold bX
  split
  · exact h
  · rename_i e he
    intro o x ho hx i j hc
    have ho' : o < s.2 + 1 := ho
    have hol : o < s.1.length := by have := (List.getElem?_eq_some_iff.mp he).1; omega
    have hx' : (bI T e (tn T) 0 s.1)[o]? = some x := hx
    obtain ⟨y, hy⟩ : ∃ y, s.1[o]? = some y := ⟨s.1[o], List.getElem?_eq_getElem hol⟩
    have hy2 := bI_mem (T := T) (e := e) (tn T) 0 s.1 hy
    rw [hx'] at hy2
    cases hy2
    by_cases q : o = s.2
    · rw [q, he] at hy
      cases hy
      exact bI_in hc
    · obtain ⟨z, hz, hz2⟩ := h o x (by omega) hy i j hc
      obtain ⟨kz, hkz⟩ := List.getElem?_of_mem hz
      exact ⟨z, List.mem_of_getElem? (bI_mem (T := T) (e := e) (tn T) 0 s.1 hkz), hz2⟩
theorem bCl_Xn {T : TB} {N : Nat} {lq : Nat → Nat} (hn : tn T ≤ 6) (hn0 : 0 < tn T) (hc : Clo T N lq) : ∀ m (s : List BE × Nat), BIv N lq s → bCl T s → bCl T (bXn T m s)
  | 0, _, _, h => h
  | m + 1, s, hB, h => bCl_Xn hn hn0 hc m _ (BIv_X hn hn0 hc hB) (bCl_X hB.1 h)
theorem FB_clo {T : TB} {N l0 : Nat} {lq f0 : Nat → Nat} {L : List BE} (hX : KX T N lq f0) (h : l0 < N) (hL : L = FB T (lq l0)) : ∀ e ∈ L, ∀ i j, can T (dgf e.1) i j → ∃ x ∈ L, x.1 = enc (aft T (dgf e.1) i j) := by
  rw [hL]
  intro e he i j hc
  obtain ⟨k, hk⟩ := List.getElem?_of_mem he
  have hkl := (List.getElem?_eq_some_iff.mp hk).1
  have hd := (FB_done hX.1 h).1
  exact bCl_Xn hX.1.1 hX.1.2.1 hX.1.2.2.1 720 _ (BIv_0 h) (fun o e ho => absurd ho (Nat.not_lt_zero _)) k e (Nat.lt_of_lt_of_le hkl hd) hk i j hc
theorem FB_hd {T : TB} {N l0 : Nat} {lq f0 : Nat → Nat} {L : List BE} (hX : KX T N lq f0) (h : l0 < N) (hL : L = FB T (lq l0)) : L[0]? = some (lq l0, 0, 0) := by
  rw [hL]
  exact bXn_mem 720 (st0 (lq l0)) rfl
theorem bAn_stay {T : TB} {e : BE} {bl : List BE} (h : ∀ i j, can T (dgf e.1) i j → ∃ x ∈ bl, x.1 = enc (aft T (dgf e.1) i j)) : ∀ c a, bAn T e c a bl = bl
  | 0, _ => rfl
  | c + 1, a => by
    rw [bAn, bnx_0 (fun z => by obtain ⟨x, hx, hx2⟩ := h _ _ z.1; exact z.2 x hx hx2)]
    exact bAn_stay h c (a + 1)
theorem stuck_ok {T : TB} {N l0 : Nat} {lq f0 : Nat → Nat} {L : List BE} (hX : KX T N lq f0) (h : l0 < N) (hL : L = FB T (lq l0)) (hd : bDi L) : stuckF T (lq l0) = if L.length = 1 then 1 else 0 := by
  have hcl := FB_clo hX h hL
  have h0 := FB_hd hX h hL
  have hl0 := (List.getElem?_eq_some_iff.mp h0).1
  unfold stuckF
  by_cases hx : ∃ i j, can T (dgf (lq l0)) i j ∧ enc (aft T (dgf (lq l0)) i j) ≠ lq l0
  · rw [if_pos hx]
    obtain ⟨i, j, h1, h2⟩ := hx
    obtain ⟨x, hx, hxe⟩ := hcl _ (List.mem_of_getElem? h0) i j h1
    obtain ⟨k, hk⟩ := List.getElem?_of_mem hx
    have hkl := (List.getElem?_eq_some_iff.mp hk).1
    have hk0 : k ≠ 0 := fun z => by
      rw [z, h0] at hk
      have := Option.some.inj hk
      rw [← this] at hxe
      exact h2 hxe.symm
    rw [if_neg (by omega)]
  · rw [if_neg hx, if_pos]
    have hs : bX T (st0 (lq l0)) = ([(lq l0, 0, 0)], 1) := by
      show (bI T (lq l0, 0, 0) (tn T) 0 [(lq l0, 0, 0)], 1) = _
      rw [bI_A, bAn_stay (fun i j hc => ⟨(lq l0, 0, 0), List.mem_singleton.mpr rfl, by
        refine Classical.byContradiction fun z => hx ⟨i, j, hc, fun q => z q.symm⟩⟩)]
    have hE := FB_end (m := 1) hX.1 h (by show (bX T (st0 (lq l0))).1.length ≤ (bX T (st0 (lq l0))).2; rw [hs]; exact Nat.le_refl _)
    rw [hL, hE]
    show (bX T (st0 (lq l0))).1.length = 1
    rw [hs]; rfl
set_option maxHeartbeats 4000000 in
set_option maxRecDepth 100000 in
theorem c_X10_stuck {l : Launch} {c : Nat} {S : AS} {N : Nat} {lq : Nat → Nat} {M : Mem} {P : PMem} (hS : SOK c S) (hK : TOK S) (hI : MIv c M P S) (hLk : lkR S N lq) (hc5 : c ≤ 520)  : CtI l yX10_stuck cX10_stuck 1 (some .int) 4 101 77 [vR 45] M P (mR (c + 1) M P S (stuckF (sT S) (enc (sNow S).1))) := by
  refine Ct_of (own := RX10) (L := [vR 45]) (by decide) rfl rfl (Nat.le_of_ble_eq_true rfl) (fun X Y hl hC hQ => ?_)
  obtain ⟨hGr, ⟨⟨g0, g1, g2, g3, g4⟩, g5⟩, ⟨g6, g7⟩, g8, g9, ⟨g10, g11⟩, g12⟩ := id hI
  obtain ⟨s1, ⟨s2, s3, s4, s5, s6, s7, s8⟩, ⟨s9, s10, s11, s12⟩, s13, s14, s15, s16, s17, s18⟩ := id hS
  obtain ⟨m1, m2, m3, m4⟩ := id s14
  have hX := lk_KX hS hLk (T' := sT S) rfl
  have hlo := m1.lo
  obtain ⟨l0, hl0, hq⟩ := lk_at (c := c) hLk hlo m2
  obtain ⟨st, hst⟩ : ∃ st : Nat, M 45 37 = (st : Int) := ⟨(M 45 37).toNat, by have := g12.1; omega⟩
  have hstc : st ≤ 16 * c := by have := g12.2.1; omega
  refine G_al0 hC dX10_stuck_0 ?_
  refine G_callVV hC (c_X10_sits hGr g0 s7) mv_X10_220 (by first | assumption | rfl) (by omega) (by decide) rfl (by decide) dX10_stuck_1 rfl (Nat.le_of_ble_eq_true rfl) rfl (fun M1 P1 h1 => ?_)
  obtain ⟨rfl, v0⟩ := h1
  obtain ⟨v1, v2⟩ := si_R hS hK hI v0
  obtain ⟨v3, v4⟩ := siI_M hI v0
  have v37 : M1 45 37 = (st : Int) := by rw [v0.2.2 45 (by omega)]; exact hst
  refine G_al0 hC dX10_stuck_4 ?_
  refine G_callVV hC (c_X10_findAll hGr v1 hX v2 hlo hl0 hq v3.2.2.2.2.2.2 v37 (by omega)) mv_X10_272 (by first | assumption | rfl) (by omega) (by decide) rfl (by decide) dX10_stuck_5 rfl (Nat.le_of_ble_eq_true rfl) rfl (fun M5 P5 h5 => ?_)
  obtain ⟨rfl, fa1, fa2⟩ := h5
  obtain ⟨w1, w2⟩ := MIv_l (c' := c + 1) v3 fa2 fa1 (by omega)
  obtain ⟨L, hLe, hFd, hFm, hFs, hFh, hFl, hFf, hFg⟩ := FB_all hX hl0
  rw [← hq, ← hLe] at fa1
  have hex : eqx mdX M M5 := v4.trans w2
  have hsk := stuck_ok hX hl0 hLe hFd
  rw [hq] at hsk
  refine G_al0 hC dX10_stuck_8 ?_
  refine G_getI hC fl_X10_250 (by first | assumption | rfl) (by omega) dX10_stuck_9 ?_
  rw [fa1.1.1]
  refine G_iconst hC dX10_stuck_12 ?_
  refine G_icmp_ne (tgt := 20) hC dX10_stuck_13 (by decide) (by omega) (by omega) (fun c13 => ?_) (fun c13 => ?_)
  · refine G_iconst hC dX10_stuck_20 ?_
    exact G_iret hC hQ dX10_stuck_21 ⟨_, rfl, rfl, by rw [hsk]; first | (rw [if_pos (by omega)]; done) | (rw [if_neg (by omega)]; done), w1, hex⟩
  · refine G_iconst hC dX10_stuck_16 ?_
    refine G_goto (tgt := 21) hC dX10_stuck_17 (by decide) ?_
    exact G_iret hC hQ dX10_stuck_21 ⟨_, rfl, rfl, by rw [hsk]; first | (rw [if_pos (by omega)]; done) | (rw [if_neg (by omega)]; done), w1, hex⟩
noncomputable def auI (W f : Nat → Nat) (k : Nat) : Int := by classical exact if ∀ g, g < k → W g = 0 ∨ (W g).testBit (f g) = true then 1 else 0
theorem auI_r {W f : Nat → Nat} {k : Nat} : auI W f k = 0 ∨ auI W f k = 1 := by unfold auI; split <;> omega
theorem auI_s1 {W f : Nat → Nat} {k : Nat} (h : W k = 0 ∨ (W k).testBit (f k) = true) : auI W f (k + 1) = auI W f k := by
  unfold auI
  by_cases q : ∀ g, g < k → W g = 0 ∨ (W g).testBit (f g) = true
  · rw [if_pos q, if_pos (fun g hg => by
      by_cases z : g = k
      · rw [z]; exact h
      · exact q g (by omega))]
  · rw [if_neg q, if_neg (fun z => q (fun g hg => z g (by omega)))]
theorem auI_s0 {W f : Nat → Nat} {k : Nat} (h : ¬ (W k = 0 ∨ (W k).testBit (f k) = true)) : auI W f (k + 1) = 0 := by
  unfold auI
  rw [if_neg (fun z => h (z k (by omega)))]
theorem auI_z {W f : Nat → Nat} {k : Nat} (h : auI W f k = 0) : auI W f (k + 1) = 0 := by
  by_cases q : W k = 0 ∨ (W k).testBit (f k) = true
  · rw [auI_s1 q]; exact h
  · exact auI_s0 q
def arQ (M : Mem) (P : PMem) (v : Int) : Int → Mem → PMem → Prop := fun r M' P' => P = P' ∧ r = v ∧ eqx s63 M M'
set_option maxHeartbeats 4000000 in
set_option maxRecDepth 100000 in
theorem c_X10_isAtRest {l : Launch} {T : TB} {W f : Nat → Nat} {M : Mem} {P : PMem} (hGr : GrM P) (hk : SkR M T W) (hth : M 45 42 = (thF f (tn T) : Int)) (hf : lieN (tn T) f) (hi : injN (tn T) f) (hW : ∀ g, g < tn T → W g < 64) : CtI l yX10_isAtRest cX10_isAtRest 4 (some .boolean) 3 66 77 [vR 45, vI (cdF f (tn T))] M P (arQ M P (auI W f (tn T))) := by
  refine Ct_of (own := RX10) (L := [vR 45, vI (cdF f (tn T)), vX 1, vX 1]) (by decide) rfl rfl (Nat.le_of_ble_eq_true rfl) (fun X Y hl hC hQ => ?_)
  obtain ⟨⟨k0, k2⟩, ⟨o2, o6, or1, oT⟩, kg⟩ := id hk
  have hlp : ∀ (c k : Nat) (kv v : Int) (M1 : Mem), k + c = tn T → kv = (k : Int) → v = auI W f k → SpR M1 (tn T) f → eqx s63 M M1 → G X Y 9 [vR 45, vI (cdF f (tn T)), vI v, vI kv] [] M1 P := by
    intro c
    induction c with
    | zero =>
      intro k kv v M1 hk0 e1 e2 hS1 hE1
      subst e1; subst e2
      have hkn : k = tn T := by omega
      have z0 : M1 45 0 = (k : Int) := by rw [hE1 45 (by unfold s63; omega), hkn]; exact k0
      have har := auI_r (W := W) (f := f) (k := k)
      rw [hkn] at har
      refine G_il3 hC dX10_isAtRest_9 ?_
      refine G_al0 hC dX10_isAtRest_10 ?_
      refine G_getI hC fl_X10_116 (by first | assumption | rfl) (by omega) dX10_isAtRest_11 ?_
      rw [z0]
      refine G_icmp_ge (tgt := 71) hC dX10_isAtRest_14 (by decide) (by omega) (by omega) (fun c14 => ?_) (fun c14 => ?_)
      · refine G_il2 hC dX10_isAtRest_71 ?_
        rw [hkn]
        exact G_zret hC hQ dX10_isAtRest_72 (by omega) ⟨_, rfl, rfl, rfl, hE1⟩
      · exact absurd c14 (by omega)
    | succ c ih =>
      intro k kv v M1 hk0 e1 e2 hS1 hE1
      subst e1; subst e2
      have z0 : M1 45 0 = (tn T : Int) := by rw [hE1 45 (by unfold s63; omega)]; exact k0
      have zw : M1 65 k = (W k : Int) := by rw [hE1 65 (by unfold s63; omega)]; exact (kg k (by omega)).2.1
      have zs : M1 63 k = nv (f k) := hS1 k (by omega)
      have hw := hW k (by omega)
      have hl := hf k (by omega)
      rcases auI_r (W := W) (f := f) (k := k) with har | har
      · rw [har]
        have hz := auI_z har
        refine G_il3 hC dX10_isAtRest_9 ?_
        refine G_al0 hC dX10_isAtRest_10 ?_
        refine G_getI hC fl_X10_116 (by first | assumption | rfl) (by omega) dX10_isAtRest_11 ?_
        rw [z0]
        refine G_icmp_ge (tgt := 71) hC dX10_isAtRest_14 (by decide) (by omega) (by omega) (fun c14 => ?_) (fun c14 => ?_)
        · exact absurd c14 (by omega)
        · refine G_il2 hC dX10_isAtRest_17 ?_
          refine G_if_eq (tgt := 63) hC dX10_isAtRest_18 (by decide) (by omega) (fun c18 => ?_) (fun c18 => ?_)
          · refine G_iconst hC dX10_isAtRest_63 ?_
            refine G_is2 hC dX10_isAtRest_64 rfl ?_
            refine G_inc3 hC dX10_isAtRest_65 rfl ?_
            refine G_goto (tgt := 9) hC dX10_isAtRest_68 (by decide) ?_
            exact ih (k + 1) _ _ _ (by omega) (by omega) (by rw [hz]) hS1 hE1
          · exact absurd rfl c18
      · rw [har]
        by_cases hw0 : W k = 0
        · have hs := auI_s1 (f := f) (k := k) (Or.inl hw0)
          refine G_il3 hC dX10_isAtRest_9 ?_
          refine G_al0 hC dX10_isAtRest_10 ?_
          refine G_getI hC fl_X10_116 (by first | assumption | rfl) (by omega) dX10_isAtRest_11 ?_
          rw [z0]
          refine G_icmp_ge (tgt := 71) hC dX10_isAtRest_14 (by decide) (by omega) (by omega) (fun c14 => ?_) (fun c14 => ?_)
          · exact absurd c14 (by omega)
          · refine G_il2 hC dX10_isAtRest_17 ?_
            refine G_if_eq (tgt := 63) hC dX10_isAtRest_18 (by decide) (by omega) (fun c18 => ?_) (fun c18 => ?_)
            · exact absurd c18 (by omega)
            · refine G_al0 hC dX10_isAtRest_21 ?_
              refine G_getR hC fl_X10_67 (by first | assumption | rfl) (by omega) (by first | assumption | exact hGr _ _ rfl) dX10_isAtRest_22 ?_
              refine G_il3 hC dX10_isAtRest_25 ?_
              refine G_ialoadN (n := k) hC (by first | assumption | rfl) (by omega) (by omega) (by omega) dX10_isAtRest_26 ?_
              rw [zw]
              refine G_if_eq (tgt := 59) hC dX10_isAtRest_27 (by decide) (by omega) (fun c27 => ?_) (fun c27 => ?_)
              · refine G_iconst hC dX10_isAtRest_59 ?_
                refine G_goto (tgt := 64) hC dX10_isAtRest_60 (by decide) ?_
                refine G_is2 hC dX10_isAtRest_64 rfl ?_
                refine G_inc3 hC dX10_isAtRest_65 rfl ?_
                refine G_goto (tgt := 9) hC dX10_isAtRest_68 (by decide) ?_
                exact ih (k + 1) _ _ _ (by omega) (by omega) (by rw [hs, har]) hS1 hE1
              · exact absurd (by omega) c27
        · by_cases h7 : f k = 7
          · have hv1 : nv (f k) = -1 := by unfold nv; rw [if_pos h7]
            have hs := auI_s0 (W := W) (f := f) (k := k) (fun z => by
              rcases z with z | z
              · exact hw0 z
              · rw [h7, Nat.testBit_lt_two_pow (show W k < 2 ^ 7 by omega)] at z; cases z)
            refine G_il3 hC dX10_isAtRest_9 ?_
            refine G_al0 hC dX10_isAtRest_10 ?_
            refine G_getI hC fl_X10_116 (by first | assumption | rfl) (by omega) dX10_isAtRest_11 ?_
            rw [z0]
            refine G_icmp_ge (tgt := 71) hC dX10_isAtRest_14 (by decide) (by omega) (by omega) (fun c14 => ?_) (fun c14 => ?_)
            · exact absurd c14 (by omega)
            · refine G_il2 hC dX10_isAtRest_17 ?_
              refine G_if_eq (tgt := 63) hC dX10_isAtRest_18 (by decide) (by omega) (fun c18 => ?_) (fun c18 => ?_)
              · exact absurd c18 (by omega)
              · refine G_al0 hC dX10_isAtRest_21 ?_
                refine G_getR hC fl_X10_67 (by first | assumption | rfl) (by omega) (by first | assumption | exact hGr _ _ rfl) dX10_isAtRest_22 ?_
                refine G_il3 hC dX10_isAtRest_25 ?_
                refine G_ialoadN (n := k) hC (by first | assumption | rfl) (by omega) (by omega) (by omega) dX10_isAtRest_26 ?_
                rw [zw]
                refine G_if_eq (tgt := 59) hC dX10_isAtRest_27 (by decide) (by omega) (fun c27 => ?_) (fun c27 => ?_)
                · exact absurd c27 (by omega)
                · refine G_al0 hC dX10_isAtRest_30 ?_
                  refine G_getR hC fl_X10_61 (by first | assumption | rfl) (by omega) (by first | assumption | exact hGr _ _ rfl) dX10_isAtRest_31 ?_
                  refine G_il3 hC dX10_isAtRest_34 ?_
                  refine G_ialoadN (n := k) hC (by first | assumption | rfl) (by omega) (by omega) (by omega) dX10_isAtRest_35 ?_
                  rw [zs, hv1]
                  refine G_iconst hC dX10_isAtRest_36 ?_
                  refine G_icmp_eq (tgt := 63) hC dX10_isAtRest_37 (by decide) (by omega) (by omega) (fun c37 => ?_) (fun c37 => ?_)
                  · refine G_iconst hC dX10_isAtRest_63 ?_
                    refine G_is2 hC dX10_isAtRest_64 rfl ?_
                    refine G_inc3 hC dX10_isAtRest_65 rfl ?_
                    refine G_goto (tgt := 9) hC dX10_isAtRest_68 (by decide) ?_
                    exact ih (k + 1) _ _ _ (by omega) (by omega) (by rw [hs]) hS1 hE1
                  · exact absurd rfl c37
          · have hv1 : nv (f k) = (f k : Int) := by unfold nv; rw [if_neg h7]
            have hbt := bit_t (d := f k) hw (by omega)
            by_cases htb : (W k).testBit (f k) = true
            · have hs := auI_s1 (f := f) (k := k) (Or.inr htb)
              rw [if_pos htb] at hbt
              refine G_il3 hC dX10_isAtRest_9 ?_
              refine G_al0 hC dX10_isAtRest_10 ?_
              refine G_getI hC fl_X10_116 (by first | assumption | rfl) (by omega) dX10_isAtRest_11 ?_
              rw [z0]
              refine G_icmp_ge (tgt := 71) hC dX10_isAtRest_14 (by decide) (by omega) (by omega) (fun c14 => ?_) (fun c14 => ?_)
              · exact absurd c14 (by omega)
              · refine G_il2 hC dX10_isAtRest_17 ?_
                refine G_if_eq (tgt := 63) hC dX10_isAtRest_18 (by decide) (by omega) (fun c18 => ?_) (fun c18 => ?_)
                · exact absurd c18 (by omega)
                · refine G_al0 hC dX10_isAtRest_21 ?_
                  refine G_getR hC fl_X10_67 (by first | assumption | rfl) (by omega) (by first | assumption | exact hGr _ _ rfl) dX10_isAtRest_22 ?_
                  refine G_il3 hC dX10_isAtRest_25 ?_
                  refine G_ialoadN (n := k) hC (by first | assumption | rfl) (by omega) (by omega) (by omega) dX10_isAtRest_26 ?_
                  rw [zw]
                  refine G_if_eq (tgt := 59) hC dX10_isAtRest_27 (by decide) (by omega) (fun c27 => ?_) (fun c27 => ?_)
                  · exact absurd c27 (by omega)
                  · refine G_al0 hC dX10_isAtRest_30 ?_
                    refine G_getR hC fl_X10_61 (by first | assumption | rfl) (by omega) (by first | assumption | exact hGr _ _ rfl) dX10_isAtRest_31 ?_
                    refine G_il3 hC dX10_isAtRest_34 ?_
                    refine G_ialoadN (n := k) hC (by first | assumption | rfl) (by omega) (by omega) (by omega) dX10_isAtRest_35 ?_
                    rw [zs, hv1]
                    refine G_iconst hC dX10_isAtRest_36 ?_
                    refine G_icmp_eq (tgt := 63) hC dX10_isAtRest_37 (by decide) (by omega) (by omega) (fun c37 => ?_) (fun c37 => ?_)
                    · exact absurd c37 (by omega)
                    · refine G_al0 hC dX10_isAtRest_40 ?_
                      refine G_getR hC fl_X10_67 (by first | assumption | rfl) (by omega) (by first | assumption | exact hGr _ _ rfl) dX10_isAtRest_41 ?_
                      refine G_il3 hC dX10_isAtRest_44 ?_
                      refine G_ialoadN (n := k) hC (by first | assumption | rfl) (by omega) (by omega) (by omega) dX10_isAtRest_45 ?_
                      rw [zw]
                      refine G_al0 hC dX10_isAtRest_46 ?_
                      refine G_getR hC fl_X10_61 (by first | assumption | rfl) (by omega) (by first | assumption | exact hGr _ _ rfl) dX10_isAtRest_47 ?_
                      refine G_il3 hC dX10_isAtRest_50 ?_
                      refine G_ialoadN (n := k) hC (by first | assumption | rfl) (by omega) (by omega) (by omega) dX10_isAtRest_51 ?_
                      rw [zs, hv1]
                      refine G_ishr hC dX10_isAtRest_52 ?_
                      refine G_iconst hC dX10_isAtRest_53 ?_
                      refine G_iand hC dX10_isAtRest_54 ?_
                      rw [hbt]
                      refine G_iconst hC dX10_isAtRest_55 ?_
                      refine G_icmp_ne (tgt := 63) hC dX10_isAtRest_56 (by decide) (by omega) (by omega) (fun c56 => ?_) (fun c56 => ?_)
                      · exact absurd rfl c56
                      · refine G_iconst hC dX10_isAtRest_59 ?_
                        refine G_goto (tgt := 64) hC dX10_isAtRest_60 (by decide) ?_
                        refine G_is2 hC dX10_isAtRest_64 rfl ?_
                        refine G_inc3 hC dX10_isAtRest_65 rfl ?_
                        refine G_goto (tgt := 9) hC dX10_isAtRest_68 (by decide) ?_
                        exact ih (k + 1) _ _ _ (by omega) (by omega) (by rw [hs, har]) hS1 hE1
            · have hs := auI_s0 (W := W) (f := f) (k := k) (fun z => by rcases z with z | z; exact hw0 z; exact htb z)
              rw [if_neg htb] at hbt
              refine G_il3 hC dX10_isAtRest_9 ?_
              refine G_al0 hC dX10_isAtRest_10 ?_
              refine G_getI hC fl_X10_116 (by first | assumption | rfl) (by omega) dX10_isAtRest_11 ?_
              rw [z0]
              refine G_icmp_ge (tgt := 71) hC dX10_isAtRest_14 (by decide) (by omega) (by omega) (fun c14 => ?_) (fun c14 => ?_)
              · exact absurd c14 (by omega)
              · refine G_il2 hC dX10_isAtRest_17 ?_
                refine G_if_eq (tgt := 63) hC dX10_isAtRest_18 (by decide) (by omega) (fun c18 => ?_) (fun c18 => ?_)
                · exact absurd c18 (by omega)
                · refine G_al0 hC dX10_isAtRest_21 ?_
                  refine G_getR hC fl_X10_67 (by first | assumption | rfl) (by omega) (by first | assumption | exact hGr _ _ rfl) dX10_isAtRest_22 ?_
                  refine G_il3 hC dX10_isAtRest_25 ?_
                  refine G_ialoadN (n := k) hC (by first | assumption | rfl) (by omega) (by omega) (by omega) dX10_isAtRest_26 ?_
                  rw [zw]
                  refine G_if_eq (tgt := 59) hC dX10_isAtRest_27 (by decide) (by omega) (fun c27 => ?_) (fun c27 => ?_)
                  · exact absurd c27 (by omega)
                  · refine G_al0 hC dX10_isAtRest_30 ?_
                    refine G_getR hC fl_X10_61 (by first | assumption | rfl) (by omega) (by first | assumption | exact hGr _ _ rfl) dX10_isAtRest_31 ?_
                    refine G_il3 hC dX10_isAtRest_34 ?_
                    refine G_ialoadN (n := k) hC (by first | assumption | rfl) (by omega) (by omega) (by omega) dX10_isAtRest_35 ?_
                    rw [zs, hv1]
                    refine G_iconst hC dX10_isAtRest_36 ?_
                    refine G_icmp_eq (tgt := 63) hC dX10_isAtRest_37 (by decide) (by omega) (by omega) (fun c37 => ?_) (fun c37 => ?_)
                    · exact absurd c37 (by omega)
                    · refine G_al0 hC dX10_isAtRest_40 ?_
                      refine G_getR hC fl_X10_67 (by first | assumption | rfl) (by omega) (by first | assumption | exact hGr _ _ rfl) dX10_isAtRest_41 ?_
                      refine G_il3 hC dX10_isAtRest_44 ?_
                      refine G_ialoadN (n := k) hC (by first | assumption | rfl) (by omega) (by omega) (by omega) dX10_isAtRest_45 ?_
                      rw [zw]
                      refine G_al0 hC dX10_isAtRest_46 ?_
                      refine G_getR hC fl_X10_61 (by first | assumption | rfl) (by omega) (by first | assumption | exact hGr _ _ rfl) dX10_isAtRest_47 ?_
                      refine G_il3 hC dX10_isAtRest_50 ?_
                      refine G_ialoadN (n := k) hC (by first | assumption | rfl) (by omega) (by omega) (by omega) dX10_isAtRest_51 ?_
                      rw [zs, hv1]
                      refine G_ishr hC dX10_isAtRest_52 ?_
                      refine G_iconst hC dX10_isAtRest_53 ?_
                      refine G_iand hC dX10_isAtRest_54 ?_
                      rw [hbt]
                      refine G_iconst hC dX10_isAtRest_55 ?_
                      refine G_icmp_ne (tgt := 63) hC dX10_isAtRest_56 (by decide) (by omega) (by omega) (fun c56 => ?_) (fun c56 => ?_)
                      · refine G_iconst hC dX10_isAtRest_63 ?_
                        refine G_is2 hC dX10_isAtRest_64 rfl ?_
                        refine G_inc3 hC dX10_isAtRest_65 rfl ?_
                        refine G_goto (tgt := 9) hC dX10_isAtRest_68 (by decide) ?_
                        exact ih (k + 1) _ _ _ (by omega) (by omega) (by rw [hs]) hS1 hE1
                      · exact absurd c56 (by omega)
  refine G_al0 hC dX10_isAtRest_0 ?_
  refine G_il1 hC dX10_isAtRest_1 ?_
  refine G_callVV hC (c_X10_loads hGr k0 o6 hth hf hi) mv_X10_263 (by first | assumption | rfl) (by omega) (by decide) rfl (by decide) dX10_isAtRest_2 rfl (Nat.le_of_ble_eq_true rfl) rfl (fun M2 P2 h2 => ?_)
  obtain ⟨rfl, p1, p2⟩ := h2
  refine G_iconst hC dX10_isAtRest_5 ?_
  refine G_is2 hC dX10_isAtRest_6 rfl ?_
  refine G_iconst hC dX10_isAtRest_7 ?_
  refine G_is3 hC dX10_isAtRest_8 rfl ?_
  exact hlp (tn T) 0 _ _ _ (by omega) rfl (by unfold auI; rw [if_pos (fun g hg => by omega)]) p1 p2
theorem auI_R {T : TB} {W f : Nat → Nat} : (atR T W f → auI W f (tn T) = 1) ∧ (¬ atR T W f → auI W f (tn T) = 0) := by
  unfold auI atR
  exact ⟨fun h => if_pos h, fun h => if_neg h⟩
def roQ (M : Mem) (P : PMem) (T : TB) (W : Nat → Nat) (st : Nat) (f0 : Nat → Nat) (q0 : Nat) : Int → Mem → PMem → Prop := fun r M' P' => P = P' ∧ r = rsF T W q0 ∧ MLi M' (tn T) (st + 1) f0 (FB T q0) ∧ lK M M'
set_option maxHeartbeats 4000000 in
set_option maxRecDepth 100000 in
theorem c_X10_restOf {l : Launch} {T : TB} {W f f0 lq : Nat → Nat} {N l0 st c : Nat} {M : Mem} {P : PMem} (hGr : GrM P) (hk : SkR M T W) (hX : KX T N lq f0) (hS : SpR M (tn T) f) (hlo : lo8 f) (hl0 : l0 < N) (hq : lq l0 = enc f) (hm : qMk c M) (h37 : M 45 37 = (st : Int)) (hst9 : st < 100000) (hW : ∀ g, g < tn T → W g < 64)  : CtI l yX10_restOf cX10_restOf 3 (some .int) 4 101 77 [vR 45] M P (roQ M P T W st f0 (enc f)) := by
  refine Ct_of (own := RX10) (L := [vR 45, vX 1, vX 1]) (by decide) rfl rfl (Nat.le_of_ble_eq_true rfl) (fun X Y hl hC hQ => ?_)
  refine G_al0 hC dX10_restOf_0 ?_
  refine G_callVV hC (c_X10_findAll hGr hk hX hS hlo hl0 hq hm h37 hst9) mv_X10_272 (by first | assumption | rfl) (by omega) (by decide) rfl (by decide) dX10_restOf_1 rfl (Nat.le_of_ble_eq_true rfl) rfl (fun M1 P1 h1 => ?_)
  skip
  obtain ⟨rfl, fa1, fa2⟩ := h1
  obtain ⟨L, hLe, hFd, hFm, hFs, hFh, hFl, hFf, hFg⟩ := FB_all hX hl0
  rw [← hq, ← hLe] at fa1
  have hlp : ∀ (c2 k : Nat) (kv v : Int) (M2 : Mem), k + c2 = L.length → kv = (k : Int) → v = mnL (fun x => atR T W (dgf x.1)) L k → eqx s63 M1 M2 → G X Y 9 [vR 45, vI v, vI kv] [] M2 P := by
    intro c2
    induction c2 with
    | zero =>
      intro k kv v M2 hkc e1 e2 hE1
      subst e1; subst e2
      have hkn : k = L.length := by omega
      have hML2 := MLi_63 fa1 hE1
      have hrs := rs_mn (W := W) hLe hFs
      rw [← hkn, hq] at hrs
      rw [hLe, hq] at hML2
      refine G_il2 hC dX10_restOf_9 ?_
      refine G_al0 hC dX10_restOf_10 ?_
      refine G_getI hC fl_X10_250 (by first | assumption | rfl) (by omega) dX10_restOf_11 ?_
      have hl1 := (MLi_63 fa1 hE1).1.1
      rw [hl1]
      refine G_icmp_ge (tgt := 63) hC dX10_restOf_14 (by decide) (by omega) (by omega) (fun c14 => ?_) (fun c14 => ?_)
      · refine G_il1 hC dX10_restOf_63 ?_
        exact G_iret hC hQ dX10_restOf_64 ⟨_, rfl, rfl, hrs, hML2, fa2.trans (lK_63 hE1)⟩
      · exact absurd c14 (by omega)
    | succ c2 ih =>
      intro k kv v M2 hkc e1 e2 hE1
      subst e1; subst e2
      have hML2 := MLi_63 fa1 hE1
      have hk2 := SkR_l hk (fa2.trans (lK_63 hE1))
      obtain ⟨⟨l1, l2, l3⟩, ⟨l4, l5, l6⟩, l7, l8⟩ := id hML2
      obtain ⟨e, hek⟩ : ∃ e, L[k]? = some e := ⟨L[k], List.getElem?_eq_getElem (by omega)⟩
      obtain ⟨c1, c2', c3, c4⟩ := l7 k e hek
      obtain ⟨le, hle1, hle2⟩ := hFm e (List.mem_of_getElem? hek)
      obtain ⟨el1, el2, el3, el4, el5, el6⟩ := KX_el hX hle1 hle2
      have hfr := hFf e (List.mem_of_getElem? hek)
      have hmr := mnL_r (Pd := fun x => atR T W (dgf x.1)) hFf k
      by_cases hp : atR T W (dgf e.1)
      · have hat := (auI_R (T := T)).1 hp
        refine G_il2 hC dX10_restOf_9 ?_
        refine G_al0 hC dX10_restOf_10 ?_
        refine G_getI hC fl_X10_250 (by first | assumption | rfl) (by omega) dX10_restOf_11 ?_
        rw [l1]
        refine G_icmp_ge (tgt := 63) hC dX10_restOf_14 (by decide) (by omega) (by omega) (fun c14 => ?_) (fun c14 => ?_)
        · exact absurd c14 (by omega)
        · refine G_al0 hC dX10_restOf_17 ?_
          refine G_al0 hC dX10_restOf_18 ?_
          refine G_getR hC fl_X10_77 (by first | assumption | rfl) (by omega) (by first | assumption | exact hGr _ _ rfl) dX10_restOf_19 ?_
          refine G_il2 hC dX10_restOf_22 ?_
          refine G_ialoadN (n := k) hC (by first | assumption | rfl) (by omega) (by omega) (by omega) dX10_restOf_23 ?_
          rw [c1]
          refine G_callVI hC (c_X10_isAtRest (f := dgf e.1) hGr hk2 (by rw [el3]; exact l3) el1 el2 hW) mv_X10_278 (by first | assumption | rfl) (by omega) (by decide) rfl (by decide) dX10_restOf_24 rfl (Nat.le_of_ble_eq_true rfl) rfl (fun z24 M24 P24 h24 => ?_)
          obtain ⟨rfl, rfl, r3⟩ := h24
          have c2b : M24 69 k = (e.2.1 : Int) := by rw [r3 69 (by unfold s63; omega)]; exact c2'
          rw [hat]
          refine G_if_eq (tgt := 55) hC dX10_restOf_27 (by decide) (by omega) (fun c27 => ?_) (fun c27 => ?_)
          · exact absurd c27 (by omega)
          · refine G_il1 hC dX10_restOf_30 ?_
            refine G_bipush hC dX10_restOf_31 (by decide) ?_
            refine G_icmp_eq (tgt := 46) hC dX10_restOf_33 (by decide) (by omega) (by omega) (fun c33 => ?_) (fun c33 => ?_)
            · refine G_al0 hC dX10_restOf_46 ?_
              refine G_getR hC fl_X10_80 (by first | assumption | rfl) (by omega) (by first | assumption | exact hGr _ _ rfl) dX10_restOf_47 ?_
              refine G_il2 hC dX10_restOf_50 ?_
              refine G_ialoadN (n := k) hC (by first | assumption | rfl) (by omega) (by omega) (by omega) dX10_restOf_51 ?_
              rw [c2b]
              refine G_goto (tgt := 56) hC dX10_restOf_52 (by decide) ?_
              refine G_is1 hC dX10_restOf_56 rfl ?_
              refine G_inc2 hC dX10_restOf_57 rfl ?_
              refine G_goto (tgt := 9) hC dX10_restOf_60 (by decide) ?_
              first
                | exact ih (k + 1) _ _ _ (by omega) (by omega) (by rw [mnL_1 hek hp (Or.inl (by omega))]) (hE1.trans r3)
                | exact ih (k + 1) _ _ _ (by omega) (by omega) (by rw [mnL_1 hek hp (Or.inr (by omega))]) (hE1.trans r3)
                | exact ih (k + 1) _ _ _ (by omega) (by omega) (by rw [mnL_0 hek (fun z => by rcases z.2 with q | q <;> omega)]) (hE1.trans r3)
            · refine G_al0 hC dX10_restOf_36 ?_
              refine G_getR hC fl_X10_80 (by first | assumption | rfl) (by omega) (by first | assumption | exact hGr _ _ rfl) dX10_restOf_37 ?_
              refine G_il2 hC dX10_restOf_40 ?_
              refine G_ialoadN (n := k) hC (by first | assumption | rfl) (by omega) (by omega) (by omega) dX10_restOf_41 ?_
              rw [c2b]
              refine G_il1 hC dX10_restOf_42 ?_
              refine G_icmp_ge (tgt := 55) hC dX10_restOf_43 (by decide) (by omega) (by omega) (fun c43 => ?_) (fun c43 => ?_)
              · refine G_il1 hC dX10_restOf_55 ?_
                refine G_is1 hC dX10_restOf_56 rfl ?_
                refine G_inc2 hC dX10_restOf_57 rfl ?_
                refine G_goto (tgt := 9) hC dX10_restOf_60 (by decide) ?_
                first
                  | exact ih (k + 1) _ _ _ (by omega) (by omega) (by rw [mnL_1 hek hp (Or.inl (by omega))]) (hE1.trans r3)
                  | exact ih (k + 1) _ _ _ (by omega) (by omega) (by rw [mnL_1 hek hp (Or.inr (by omega))]) (hE1.trans r3)
                  | exact ih (k + 1) _ _ _ (by omega) (by omega) (by rw [mnL_0 hek (fun z => by rcases z.2 with q | q <;> omega)]) (hE1.trans r3)
              · refine G_al0 hC dX10_restOf_46 ?_
                refine G_getR hC fl_X10_80 (by first | assumption | rfl) (by omega) (by first | assumption | exact hGr _ _ rfl) dX10_restOf_47 ?_
                refine G_il2 hC dX10_restOf_50 ?_
                refine G_ialoadN (n := k) hC (by first | assumption | rfl) (by omega) (by omega) (by omega) dX10_restOf_51 ?_
                rw [c2b]
                refine G_goto (tgt := 56) hC dX10_restOf_52 (by decide) ?_
                refine G_is1 hC dX10_restOf_56 rfl ?_
                refine G_inc2 hC dX10_restOf_57 rfl ?_
                refine G_goto (tgt := 9) hC dX10_restOf_60 (by decide) ?_
                first
                  | exact ih (k + 1) _ _ _ (by omega) (by omega) (by rw [mnL_1 hek hp (Or.inl (by omega))]) (hE1.trans r3)
                  | exact ih (k + 1) _ _ _ (by omega) (by omega) (by rw [mnL_1 hek hp (Or.inr (by omega))]) (hE1.trans r3)
                  | exact ih (k + 1) _ _ _ (by omega) (by omega) (by rw [mnL_0 hek (fun z => by rcases z.2 with q | q <;> omega)]) (hE1.trans r3)
      · have hat := (auI_R (T := T)).2 hp
        refine G_il2 hC dX10_restOf_9 ?_
        refine G_al0 hC dX10_restOf_10 ?_
        refine G_getI hC fl_X10_250 (by first | assumption | rfl) (by omega) dX10_restOf_11 ?_
        rw [l1]
        refine G_icmp_ge (tgt := 63) hC dX10_restOf_14 (by decide) (by omega) (by omega) (fun c14 => ?_) (fun c14 => ?_)
        · exact absurd c14 (by omega)
        · refine G_al0 hC dX10_restOf_17 ?_
          refine G_al0 hC dX10_restOf_18 ?_
          refine G_getR hC fl_X10_77 (by first | assumption | rfl) (by omega) (by first | assumption | exact hGr _ _ rfl) dX10_restOf_19 ?_
          refine G_il2 hC dX10_restOf_22 ?_
          refine G_ialoadN (n := k) hC (by first | assumption | rfl) (by omega) (by omega) (by omega) dX10_restOf_23 ?_
          rw [c1]
          refine G_callVI hC (c_X10_isAtRest (f := dgf e.1) hGr hk2 (by rw [el3]; exact l3) el1 el2 hW) mv_X10_278 (by first | assumption | rfl) (by omega) (by decide) rfl (by decide) dX10_restOf_24 rfl (Nat.le_of_ble_eq_true rfl) rfl (fun z24 M24 P24 h24 => ?_)
          obtain ⟨rfl, rfl, r3⟩ := h24
          have c2b : M24 69 k = (e.2.1 : Int) := by rw [r3 69 (by unfold s63; omega)]; exact c2'
          rw [hat]
          refine G_if_eq (tgt := 55) hC dX10_restOf_27 (by decide) (by omega) (fun c27 => ?_) (fun c27 => ?_)
          · refine G_il1 hC dX10_restOf_55 ?_
            refine G_is1 hC dX10_restOf_56 rfl ?_
            refine G_inc2 hC dX10_restOf_57 rfl ?_
            refine G_goto (tgt := 9) hC dX10_restOf_60 (by decide) ?_
            exact ih (k + 1) _ _ _ (by omega) (by omega) (by rw [mnL_0 hek (fun z => hp z.1)]) (hE1.trans r3)
          · exact absurd rfl c27
  refine G_bipush hC dX10_restOf_4 (by decide) ?_
  refine G_is1 hC dX10_restOf_6 rfl ?_
  refine G_iconst hC dX10_restOf_7 ?_
  refine G_is2 hC dX10_restOf_8 rfl ?_
  exact hlp L.length 0 _ _ _ (by omega) rfl rfl eqx.refl
theorem sW_lt {c : Nat} {S : AS} (hS : SOK c S) : ∀ g, g < tn (sT S) → sW S g < 64 := fun g hg => by
  have h1 := hS.2.2.2.1 g hg
  have h2 : 2 ^ sNd S ≤ 2 ^ 6 := Nat.pow_le_pow_right (by omega) hS.2.1.2.1
  omega
set_option maxHeartbeats 4000000 in
set_option maxRecDepth 100000 in
theorem c_X10_rest {l : Launch} {c : Nat} {S : AS} {N : Nat} {lq : Nat → Nat} {M : Mem} {P : PMem} (hS : SOK c S) (hK : TOK S) (hI : MIv c M P S) (hLk : lkR S N lq) (hc5 : c ≤ 520)  : CtI l yX10_rest cX10_rest 1 (some .int) 5 123 77 [vR 45] M P (mR (c + 1) M P S (rsF (sT S) (sW S) (enc (sNow S).1))) := by
  refine Ct_of (own := RX10) (L := [vR 45]) (by decide) rfl rfl (Nat.le_of_ble_eq_true rfl) (fun X Y hl hC hQ => ?_)
  obtain ⟨hGr, ⟨⟨g0, g1, g2, g3, g4⟩, g5⟩, ⟨g6, g7⟩, g8, g9, ⟨g10, g11⟩, g12⟩ := id hI
  obtain ⟨s1, ⟨s2, s3, s4, s5, s6, s7, s8⟩, ⟨s9, s10, s11, s12⟩, s13, s14, s15, s16, s17, s18⟩ := id hS
  obtain ⟨m1, m2, m3, m4⟩ := id s14
  have hX := lk_KX hS hLk (T' := sT S) rfl
  have hlo := m1.lo
  obtain ⟨l0, hl0, hq⟩ := lk_at (c := c) hLk hlo m2
  obtain ⟨st, hst⟩ : ∃ st : Nat, M 45 37 = (st : Int) := ⟨(M 45 37).toNat, by have := g12.1; omega⟩
  have hstc : st ≤ 16 * c := by have := g12.2.1; omega
  refine G_al0 hC dX10_rest_0 ?_
  refine G_callVV hC (c_X10_sits hGr g0 s7) mv_X10_220 (by first | assumption | rfl) (by omega) (by decide) rfl (by decide) dX10_rest_1 rfl (Nat.le_of_ble_eq_true rfl) rfl (fun M1 P1 h1 => ?_)
  obtain ⟨rfl, v0⟩ := h1
  obtain ⟨v1, v2⟩ := si_R hS hK hI v0
  obtain ⟨v3, v4⟩ := siI_M hI v0
  have v37 : M1 45 37 = (st : Int) := by rw [v0.2.2 45 (by omega)]; exact hst
  refine G_al0 hC dX10_rest_4 ?_
  refine G_callVI hC (c_X10_restOf hGr v1 hX v2 hlo hl0 hq v3.2.2.2.2.2.2 v37 (by omega) (sW_lt hS)) mv_X10_281 (by first | assumption | rfl) (by omega) (by decide) rfl (by decide) dX10_rest_5 rfl (Nat.le_of_ble_eq_true rfl) rfl (fun z5 M5 P5 h5 => ?_)
  obtain ⟨rfl, rfl, fa1, fa2⟩ := h5
  obtain ⟨w1, w2⟩ := MIv_l (c' := c + 1) v3 fa2 fa1 (by omega)
  exact G_iret hC hQ dX10_rest_8 ⟨_, rfl, rfl, rfl, w1, v4.trans w2⟩
