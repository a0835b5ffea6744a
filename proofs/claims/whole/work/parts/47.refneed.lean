/-! the reference: needs -/
theorem lk_KX {c N : Nat} {S : AS} {lq : Nat → Nat} (hS : SOK c S) (h : lkR S N lq) {T' : TB} (hn : tn T' = tn (sT S)) : KX T' N lq (sF0 S) := by
  obtain ⟨-, ⟨-, -, -, -, s2, s6, -⟩, ⟨s9, s10, s11, s12⟩, -⟩ := hS
  have hLQ : LQ (tn T') (sF0 S) N lq := by rw [hn]; exact h.1
  exact ⟨⟨by omega, by omega, LQ_Clo (by omega) (by omega) hLQ, h.2.1⟩, hLQ, s9, s12⟩
theorem lk_at {c N : Nat} {S : AS} {lq f : Nat → Nat} (h : lkR S N lq) (hf : lo8 f) (hA : AR (tn (sT S)) (sF0 S) f) : ∃ l, l < N ∧ lq l = enc f := h.1.2 f hf hA
theorem FB_iv {T : TB} {N l0 : Nat} {lq f0 : Nat → Nat} (hX : KX T N lq f0) (h : l0 < N) : bDi (FB T (lq l0)) ∧ (∀ x ∈ FB T (lq l0), ∃ l, l < N ∧ lq l = x.1) ∧ bSo (FB T (lq l0)) ∧ bHd (FB T (lq l0)) ∧ (FB T (lq l0)).length ≤ 720 := by
  obtain ⟨-, b1, b2, b3, b4, b5, b6⟩ := FB_done hX.1 h
  exact ⟨b2, b3, b4, b5, FB_len hX.1 h⟩
theorem qMk_l {M' : Mem} {n st' c' : Nat} {f0 : Nat → Nat} {L : List BE} (h : MLi M' n st' f0 L) (hc : st' ≤ 16 * c') : qMk c' M' := by
  obtain ⟨⟨h1, h2, h3⟩, ⟨h41, h42, h43⟩, h5, h6⟩ := h
  refine ⟨by rw [h2]; omega, by rw [h2]; omega, fun q hq => ?_⟩
  by_cases hx : ∃ e, e ∈ L ∧ cdF (dgf e.1) n = q
  · obtain ⟨e, he, rfl⟩ := hx
    obtain ⟨k, hk⟩ := List.getElem?_of_mem he
    have hkl := (List.getElem?_eq_some_iff.mp hk).1
    have := (h5 k e hk).2.2.2
    omega
  · have := h6 q hq (fun e he z => hx ⟨e, he, z⟩)
    omega
theorem MIv_l {c c' n st' : Nat} {M M' : Mem} {P : PMem} {S : AS} {f0 : Nat → Nat} {L : List BE} (hI : MIv c M P S) (hK : lK M M') (h : MLi M' n st' f0 L) (hc : st' ≤ 16 * c') : MIv c' M' P S ∧ eqx mdX M M' :=
  ⟨MIv_x hI (fun a h1 h2 b => hK.1 a (by omega) (by omega) (by omega) b) (fun b hb => hK.2 b (by omega) (by omega) (by omega)) (qMk_l h hc), fun a ha b => hK.1 a (fun q => ha (by unfold mdX; omega)) (fun q => ha (by unfold mdX; omega)) (fun q => ha (by unfold mdX; omega)) b⟩
noncomputable def mnL (Pd : BE → Prop) (L : List BE) : Nat → Int
  | 0 => -4
  | k + 1 => by classical exact if ∃ e, L[k]? = some e ∧ Pd e ∧ (mnL Pd L k = -4 ∨ (e.2.1 : Int) < mnL Pd L k) then ((ent L k).2.1 : Int) else mnL Pd L k
theorem mnL_1 {Pd : BE → Prop} {L : List BE} {k : Nat} {e : BE} (hk : L[k]? = some e) (hp : Pd e) (h : mnL Pd L k = -4 ∨ (e.2.1 : Int) < mnL Pd L k) : mnL Pd L (k + 1) = (e.2.1 : Int) := by
  rw [mnL, if_pos ⟨e, hk, hp, h⟩, ent_some hk]
theorem mnL_0 {Pd : BE → Prop} {L : List BE} {k : Nat} {e : BE} (hk : L[k]? = some e) (h : ¬ (Pd e ∧ (mnL Pd L k = -4 ∨ (e.2.1 : Int) < mnL Pd L k))) : mnL Pd L (k + 1) = mnL Pd L k := by
  rw [mnL, if_neg]
  rintro ⟨x, hx, h2⟩
  rw [hk] at hx
  cases hx
  exact h h2
theorem mnL_r {Pd : BE → Prop} {L : List BE} {B : Nat} (h : ∀ x ∈ L, x.2.1 ≤ B) : ∀ k, mnL Pd L k = -4 ∨ (0 ≤ mnL Pd L k ∧ mnL Pd L k ≤ B)
  | 0 => Or.inl rfl
  | k + 1 => by
    have ih := mnL_r (Pd := Pd) h k
    rw [mnL]
    split
    · rename_i hx
      obtain ⟨e, he, -⟩ := hx
      rw [ent_some he]
      have := h e (List.mem_of_getElem? he)
      omega
    · exact ih
theorem mnL_so {Pd : BE → Prop} {L : List BE} (hS : bSo L) : ∀ k, k ≤ L.length → (mnL Pd L k = -4 ∧ ∀ (k' : Nat) (x : BE), k' < k → L[k']? = some x → ¬ Pd x) ∨ ∃ (k0 : Nat) (e : BE), k0 < k ∧ FST Pd L k0 e ∧ mnL Pd L k = (e.2.1 : Int)
  | 0, _ => Or.inl ⟨rfl, fun k' x h => by omega⟩
  | k + 1, hk => by
    obtain ⟨x, hx⟩ : ∃ x, L[k]? = some x := ⟨L[k], List.getElem?_eq_getElem (by omega)⟩
    rcases mnL_so (Pd := Pd) hS k (by omega) with ⟨a1, a2⟩ | ⟨k0, e, a1, a2, a3⟩
    · by_cases hp : Pd x
      · exact Or.inr ⟨k, x, by omega, ⟨hx, hp, a2⟩, mnL_1 hx hp (Or.inl a1)⟩
      · refine Or.inl ⟨by rw [mnL_0 hx (fun z => hp z.1)]; exact a1, fun k' y hk' hy => ?_⟩
        by_cases q : k' = k
        · rw [q, hx] at hy; cases hy; exact hp
        · exact a2 k' y (by omega) hy
    · refine Or.inr ⟨k0, e, by omega, a2, ?_⟩
      have := (hS k0 k e x (by omega) a2.1 hx).1
      rw [mnL_0 hx (fun z => by rcases z.2 with q | q <;> omega)]
      exact a3
theorem mnL_fst {Pd : BE → Prop} {L : List BE} (hS : bSo L) : mnL Pd L L.length = match fstN Pd L with
    | none => -4
    | some p => (p.2.2.1 : Int) := by
  rcases mnL_so (Pd := Pd) hS L.length (Nat.le_refl _) with ⟨a1, a2⟩ | ⟨k0, e, a1, a2, a3⟩
  · rw [fstN_0 (fun x hx => by
      obtain ⟨k, hk⟩ := List.getElem?_of_mem hx
      exact a2 k x (List.getElem?_eq_some_iff.mp hk).1 hk)]
    exact a1
  · rw [fstN_1 a2]; exact a3
theorem se_r {f : Nat → Nat} {d : Nat} : ∀ n, -1 ≤ seN f d n ∧ seN f d n ≤ n
  | 0 => by unfold seN; omega
  | n + 1 => by
    have := se_r (f := f) (d := d) n
    unfold seN
    split <;> omega
theorem se_iff {f : Nat → Nat} {d n i : Nat} (hi : injN n f) (hd : d < 6) (hin : i < n) : seN f d n = (i : Int) ↔ f i = d := by
  constructor
  · intro h
    by_cases hx : ∃ g, g < n ∧ f g = d
    · obtain ⟨g, hg, e⟩ := hx
      rw [se_at n hg e (fun j hj ej => hi j g hj hg (by omega) (by omega))] at h
      rw [show i = g by omega]; exact e
    · rw [se_no n (fun g hg e => hx ⟨g, hg, e⟩)] at h
      omega
  · intro h
    exact se_at n hin h (fun j hj ej => hi j i hj hin (by omega) (by omega))
set_option maxHeartbeats 4000000 in
set_option maxRecDepth 100000 in
theorem c_X10_needOf {l : Launch} {T : TB} {N st i d : Nat} {lq f0 : Nat → Nat} {L : List BE} {M : Mem} {P : PMem} (hGr : GrM P) (hX : KX T N lq f0) (hL : MLi M (tn T) st f0 L) (hLm : ∀ x ∈ L, ∃ l, l < N ∧ lq l = x.1) (hLf : ∀ x ∈ L, x.2.1 ≤ 100000) (hin : i < tn T) (hd : d < 6) : CtI l yX10_needOf cX10_needOf 6 (some .int) 2 44 77 [vR 45, vI i, vI d] M P (pI (mnL (fun x => dgf x.1 i = d) L L.length) M P) := by
  refine Ct_of (own := RX10) (L := [vR 45, vI i, vI d, vX 1, vX 1, vX 1]) (by decide) rfl rfl (Nat.le_of_ble_eq_true rfl) (fun X Y hl hC hQ => ?_)
  obtain ⟨⟨l1, l2, l3⟩, ⟨l4, l5, l6⟩, l7, l8⟩ := id hL
  have t1 := hX.1.1
  have hlp : ∀ (c k : Nat) (kv v : Int) (x5 : AV), k + c = L.length → kv = (k : Int) → v = mnL (fun x => dgf x.1 i = d) L k → G X Y 6 [vR 45, vI i, vI d, vI v, vI kv, x5] [] M P := by
    intro c
    induction c with
    | zero =>
      intro k kv v x5 hk e1 e2
      subst e1; subst e2
      have hkn : k = L.length := by omega
      subst hkn
      refine G_il4 hC dX10_needOf_6 ?_
      refine G_al0 hC dX10_needOf_8 ?_
      refine G_getI hC fl_X10_250 (by first | assumption | rfl) (by omega) dX10_needOf_9 ?_
      rw [l1]
      refine G_icmp_ge (tgt := 78) hC dX10_needOf_12 (by decide) (by omega) (by omega) (fun c12 => ?_) (fun c12 => ?_)
      · refine G_il3 hC dX10_needOf_78 ?_
        exact G_iret hC hQ dX10_needOf_79 ⟨_, rfl, rfl, rfl, rfl⟩
      · exact absurd c12 (by omega)
    | succ c ih =>
      intro k kv v x5 hk e1 e2
      subst e1; subst e2
      obtain ⟨e, hek⟩ : ∃ e, L[k]? = some e := ⟨L[k], List.getElem?_eq_getElem (by omega)⟩
      obtain ⟨c1, c2, c3, c4⟩ := l7 k e hek
      obtain ⟨le, hle1, hle2⟩ := hLm e (List.mem_of_getElem? hek)
      obtain ⟨el1, el2, el3, el4, el5, el6⟩ := KX_el hX hle1 hle2
      have hfr := hLf e (List.mem_of_getElem? hek)
      have hmr := mnL_r (Pd := fun x => dgf x.1 i = d) hLf k
      have hsr := se_r (f := dgf e.1) (d := d) (tn T)
      have hsi := se_iff (i := i) el2 hd hin
      by_cases hp : dgf e.1 i = d
      · rw [← hsi] at hp
        have hse := hp
        rw [hsi] at hp
        refine G_il4 hC dX10_needOf_6 ?_
        refine G_al0 hC dX10_needOf_8 ?_
        refine G_getI hC fl_X10_250 (by first | assumption | rfl) (by omega) dX10_needOf_9 ?_
        rw [l1]
        refine G_icmp_ge (tgt := 78) hC dX10_needOf_12 (by decide) (by omega) (by omega) (fun c12 => ?_) (fun c12 => ?_)
        · exact absurd c12 (by omega)
        · refine G_al0 hC dX10_needOf_15 ?_
          refine G_al0 hC dX10_needOf_16 ?_
          refine G_getR hC fl_X10_77 (by first | assumption | rfl) (by omega) (by first | assumption | exact hGr _ _ rfl) dX10_needOf_17 ?_
          refine G_il4 hC dX10_needOf_20 ?_
          refine G_ialoadN (n := k) hC (by first | assumption | rfl) (by omega) (by omega) (by omega) dX10_needOf_22 ?_
          rw [c1]
          refine G_il2 hC dX10_needOf_23 ?_
          refine G_callVI hC (c_X10_seatIn (n := tn T) (f := dgf e.1) (d := d) hGr (by rw [el3]; exact l3) t1 el1 el2 hd) mv_X10_244 (by first | assumption | rfl) (by omega) (by decide) rfl (by decide) dX10_needOf_24 rfl (Nat.le_of_ble_eq_true rfl) rfl (fun z24 M24 P24 h24 => ?_)
          obtain ⟨rfl, rfl, rfl⟩ := h24
          rw [hse]
          refine G_il1 hC dX10_needOf_27 ?_
          refine G_icmp_ne (tgt := 35) hC dX10_needOf_28 (by decide) (by omega) (by omega) (fun c28 => ?_) (fun c28 => ?_)
          · exact absurd rfl c28
          · refine G_iconst hC dX10_needOf_31 ?_
            refine G_goto (tgt := 36) hC dX10_needOf_32 (by decide) ?_
            refine G_is5 hC dX10_needOf_36 rfl ?_
            refine G_il5 hC dX10_needOf_38 ?_
            refine G_if_eq (tgt := 70) hC dX10_needOf_40 (by decide) (by omega) (fun c40 => ?_) (fun c40 => ?_)
            · exact absurd c40 (by omega)
            · refine G_il3 hC dX10_needOf_43 ?_
              refine G_bipush hC dX10_needOf_44 (by decide) ?_
              refine G_icmp_eq (tgt := 60) hC dX10_needOf_46 (by decide) (by omega) (by omega) (fun c46 => ?_) (fun c46 => ?_)
              · refine G_al0 hC dX10_needOf_60 ?_
                refine G_getR hC fl_X10_80 (by first | assumption | rfl) (by omega) (by first | assumption | exact hGr _ _ rfl) dX10_needOf_61 ?_
                refine G_il4 hC dX10_needOf_64 ?_
                refine G_ialoadN (n := k) hC (by first | assumption | rfl) (by omega) (by omega) (by omega) dX10_needOf_66 ?_
                rw [c2]
                refine G_goto (tgt := 71) hC dX10_needOf_67 (by decide) ?_
                refine G_is3 hC dX10_needOf_71 rfl ?_
                refine G_inc4 hC dX10_needOf_72 rfl ?_
                refine G_goto (tgt := 6) hC dX10_needOf_75 (by decide) ?_
                first
                  | exact ih (k + 1) _ _ _ (by omega) (by omega) (by rw [mnL_1 hek hp (Or.inl (by omega))])
                  | exact ih (k + 1) _ _ _ (by omega) (by omega) (by rw [mnL_1 hek hp (Or.inr (by omega))])
                  | exact ih (k + 1) _ _ _ (by omega) (by omega) (by rw [mnL_0 hek (fun z => by rcases z.2 with q | q <;> omega)])
              · refine G_al0 hC dX10_needOf_49 ?_
                refine G_getR hC fl_X10_80 (by first | assumption | rfl) (by omega) (by first | assumption | exact hGr _ _ rfl) dX10_needOf_50 ?_
                refine G_il4 hC dX10_needOf_53 ?_
                refine G_ialoadN (n := k) hC (by first | assumption | rfl) (by omega) (by omega) (by omega) dX10_needOf_55 ?_
                rw [c2]
                refine G_il3 hC dX10_needOf_56 ?_
                refine G_icmp_ge (tgt := 70) hC dX10_needOf_57 (by decide) (by omega) (by omega) (fun c57 => ?_) (fun c57 => ?_)
                · refine G_il3 hC dX10_needOf_70 ?_
                  refine G_is3 hC dX10_needOf_71 rfl ?_
                  refine G_inc4 hC dX10_needOf_72 rfl ?_
                  refine G_goto (tgt := 6) hC dX10_needOf_75 (by decide) ?_
                  first
                    | exact ih (k + 1) _ _ _ (by omega) (by omega) (by rw [mnL_1 hek hp (Or.inl (by omega))])
                    | exact ih (k + 1) _ _ _ (by omega) (by omega) (by rw [mnL_1 hek hp (Or.inr (by omega))])
                    | exact ih (k + 1) _ _ _ (by omega) (by omega) (by rw [mnL_0 hek (fun z => by rcases z.2 with q | q <;> omega)])
                · refine G_al0 hC dX10_needOf_60 ?_
                  refine G_getR hC fl_X10_80 (by first | assumption | rfl) (by omega) (by first | assumption | exact hGr _ _ rfl) dX10_needOf_61 ?_
                  refine G_il4 hC dX10_needOf_64 ?_
                  refine G_ialoadN (n := k) hC (by first | assumption | rfl) (by omega) (by omega) (by omega) dX10_needOf_66 ?_
                  rw [c2]
                  refine G_goto (tgt := 71) hC dX10_needOf_67 (by decide) ?_
                  refine G_is3 hC dX10_needOf_71 rfl ?_
                  refine G_inc4 hC dX10_needOf_72 rfl ?_
                  refine G_goto (tgt := 6) hC dX10_needOf_75 (by decide) ?_
                  first
                    | exact ih (k + 1) _ _ _ (by omega) (by omega) (by rw [mnL_1 hek hp (Or.inl (by omega))])
                    | exact ih (k + 1) _ _ _ (by omega) (by omega) (by rw [mnL_1 hek hp (Or.inr (by omega))])
                    | exact ih (k + 1) _ _ _ (by omega) (by omega) (by rw [mnL_0 hek (fun z => by rcases z.2 with q | q <;> omega)])
      · have hse : ¬ seN (dgf e.1) d (tn T) = (i : Int) := fun z => hp (hsi.mp z)
        refine G_il4 hC dX10_needOf_6 ?_
        refine G_al0 hC dX10_needOf_8 ?_
        refine G_getI hC fl_X10_250 (by first | assumption | rfl) (by omega) dX10_needOf_9 ?_
        rw [l1]
        refine G_icmp_ge (tgt := 78) hC dX10_needOf_12 (by decide) (by omega) (by omega) (fun c12 => ?_) (fun c12 => ?_)
        · exact absurd c12 (by omega)
        · refine G_al0 hC dX10_needOf_15 ?_
          refine G_al0 hC dX10_needOf_16 ?_
          refine G_getR hC fl_X10_77 (by first | assumption | rfl) (by omega) (by first | assumption | exact hGr _ _ rfl) dX10_needOf_17 ?_
          refine G_il4 hC dX10_needOf_20 ?_
          refine G_ialoadN (n := k) hC (by first | assumption | rfl) (by omega) (by omega) (by omega) dX10_needOf_22 ?_
          rw [c1]
          refine G_il2 hC dX10_needOf_23 ?_
          refine G_callVI hC (c_X10_seatIn (n := tn T) (f := dgf e.1) (d := d) hGr (by rw [el3]; exact l3) t1 el1 el2 hd) mv_X10_244 (by first | assumption | rfl) (by omega) (by decide) rfl (by decide) dX10_needOf_24 rfl (Nat.le_of_ble_eq_true rfl) rfl (fun z24 M24 P24 h24 => ?_)
          obtain ⟨rfl, rfl, rfl⟩ := h24
          refine G_il1 hC dX10_needOf_27 ?_
          refine G_icmp_ne (tgt := 35) hC dX10_needOf_28 (by decide) (by omega) (by omega) (fun c28 => ?_) (fun c28 => ?_)
          · refine G_iconst hC dX10_needOf_35 ?_
            refine G_is5 hC dX10_needOf_36 rfl ?_
            refine G_il5 hC dX10_needOf_38 ?_
            refine G_if_eq (tgt := 70) hC dX10_needOf_40 (by decide) (by omega) (fun c40 => ?_) (fun c40 => ?_)
            · refine G_il3 hC dX10_needOf_70 ?_
              refine G_is3 hC dX10_needOf_71 rfl ?_
              refine G_inc4 hC dX10_needOf_72 rfl ?_
              refine G_goto (tgt := 6) hC dX10_needOf_75 (by decide) ?_
              exact ih (k + 1) _ _ _ (by omega) (by omega) (by rw [mnL_0 hek (fun z => hp z.1)])
            · exact absurd rfl c40
          · exact absurd c28 hse
  refine G_bipush hC dX10_needOf_0 (by decide) ?_
  refine G_is3 hC dX10_needOf_2 rfl ?_
  refine G_iconst hC dX10_needOf_3 ?_
  refine G_is4 hC dX10_needOf_4 rfl ?_
  exact hlp L.length 0 _ _ _ (by omega) rfl rfl
theorem FB_far {T : TB} {N l0 : Nat} {lq f0 : Nat → Nat} (hX : KX T N lq f0) (h : l0 < N) : ∀ x ∈ FB T (lq l0), x.2.1 ≤ 100000 ∧ x.2.2 ≤ 55 := fun x hx => by
  obtain ⟨k, hk⟩ := List.getElem?_of_mem hx
  have h1 := (FB_iv hX h).2.2.2.1 k x hk
  have h2 := (FB_iv hX h).2.2.2.2
  have h3 := (List.getElem?_eq_some_iff.mp hk).1
  omega
theorem FB_all {T : TB} {N l0 : Nat} {lq f0 : Nat → Nat} (hX : KX T N lq f0) (h : l0 < N) : ∃ L, L = FB T (lq l0) ∧ bDi L ∧ (∀ x ∈ L, ∃ l, l < N ∧ lq l = x.1) ∧ bSo L ∧ bHd L ∧ L.length ≤ 720 ∧ (∀ x ∈ L, x.2.1 ≤ 100000) ∧ (∀ x ∈ L, x.2.2 ≤ 55) := by
  obtain ⟨a1, a2, a3, a4, a5⟩ := FB_iv hX h
  exact ⟨_, rfl, a1, a2, a3, a4, a5, fun x hx => (FB_far hX h x hx).1, fun x hx => (FB_far hX h x hx).2⟩
theorem nd_mn {T : TB} {q g d : Nat} {L : List BE} (hL : L = FB T q) (hS : bSo L) : mnL (fun x => dgf x.1 g = d) L L.length = ndF T q g d := by
  rw [mnL_fst hS, hL]
  unfold ndF
  rfl
theorem rs_mn {T : TB} {q : Nat} {W : Nat → Nat} {L : List BE} (hL : L = FB T q) (hS : bSo L) : mnL (fun x => atR T W (dgf x.1)) L L.length = rsF T W q := by
  rw [mnL_fst hS, hL]
  unfold rsF
  rfl
set_option maxHeartbeats 4000000 in
set_option maxRecDepth 100000 in
theorem c_X10_need {l : Launch} {c : Nat} {S : AS} {N : Nat} {lq : Nat → Nat} {i d : Int} {M : Mem} {P : PMem} (hS : SOK c S) (hK : TOK S) (hI : MIv c M P S) (hLk : lkR S N lq) (hc5 : c ≤ 520) (hi : i32r i) (hd0 : i32r d)  : CtI l yX10_need cX10_need 3 (some .int) 4 101 77 [vR 45, vI i, vI d] M P (mR (c + 1) M P S (needS S i d)) := by
  refine Ct_of (own := RX10) (L := [vR 45, vI i, vI d]) (by decide) rfl rfl (Nat.le_of_ble_eq_true rfl) (fun X Y hl hC hQ => ?_)
  obtain ⟨hGr, ⟨⟨g0, g1, g2, g3, g4⟩, g5⟩, ⟨g6, g7⟩, g8, g9, ⟨g10, g11⟩, g12⟩ := id hI
  obtain ⟨s1, ⟨s2, s3, s4, s5, s6, s7, s8⟩, ⟨s9, s10, s11, s12⟩, s13, s14, s15, s16, s17, s18⟩ := id hS
  obtain ⟨m1, m2, m3, m4⟩ := id s14
  have hX := lk_KX hS hLk (T' := sT S) rfl
  have hlo := m1.lo
  obtain ⟨l0, hl0, hq⟩ := lk_at (c := c) hLk hlo m2
  obtain ⟨st, hst⟩ : ∃ st : Nat, M 45 37 = (st : Int) := ⟨(M 45 37).toNat, by have := g12.1; omega⟩
  have hstc : st ≤ 16 * c := by have := g12.2.1; omega
  unfold i32r at *
  by_cases hg : isG S i
  · by_cases hd : isD S d
    · obtain ⟨g, rfl⟩ : ∃ g : Nat, i = (g : Int) := ⟨i.toNat, by have := hg.1; omega⟩
      obtain ⟨e, rfl⟩ : ∃ e : Nat, d = (e : Int) := ⟨d.toNat, by have := hd.1; omega⟩
      have hg2 := hg.2
      have hd2 := hd.2
      refine G_al0 hC dX10_need_0 ?_
      refine G_il1 hC dX10_need_1 ?_
      refine G_callVI hC (c_X10_isGuest1 hS hI (by unfold i32r; omega) hg) mv_X10_192 (by first | assumption | rfl) (by omega) (by decide) rfl (by decide) dX10_need_2 rfl (Nat.le_of_ble_eq_true rfl) rfl (fun z2 M2 P2 h2 => ?_)
      obtain ⟨rfl, rfl, rfl⟩ := h2
      refine G_if_eq (tgt := 16) hC dX10_need_5 (by decide) (by omega) (fun c5 => ?_) (fun c5 => ?_)
      · exact absurd c5 (by omega)
      · refine G_al0 hC dX10_need_8 ?_
        refine G_il2 hC dX10_need_9 ?_
        refine G_callVI hC (c_X10_isDish1 hS hI (by unfold i32r; omega) hd) mv_X10_195 (by first | assumption | rfl) (by omega) (by decide) rfl (by decide) dX10_need_10 rfl (Nat.le_of_ble_eq_true rfl) rfl (fun z10 M10 P10 h10 => ?_)
        obtain ⟨rfl, rfl, rfl⟩ := h10
        refine G_if_ne (tgt := 18) hC dX10_need_13 (by decide) (by omega) (fun c13 => ?_) (fun c13 => ?_)
        · refine G_al0 hC dX10_need_18 ?_
          refine G_callVV hC (c_X10_sits hGr g0 s7) mv_X10_220 (by first | assumption | rfl) (by omega) (by decide) rfl (by decide) dX10_need_19 rfl (Nat.le_of_ble_eq_true rfl) rfl (fun M19 P19 h19 => ?_)
          obtain ⟨rfl, v0⟩ := h19
          obtain ⟨v1, v2⟩ := si_R hS hK hI v0
          obtain ⟨v3, v4⟩ := siI_M hI v0
          have v37 : M19 45 37 = (st : Int) := by rw [v0.2.2 45 (by omega)]; exact hst
          refine G_al0 hC dX10_need_22 ?_
          refine G_callVV hC (c_X10_findAll hGr v1 hX v2 hlo hl0 hq v3.2.2.2.2.2.2 v37 (by omega)) mv_X10_272 (by first | assumption | rfl) (by omega) (by decide) rfl (by decide) dX10_need_23 rfl (Nat.le_of_ble_eq_true rfl) rfl (fun M23 P23 h23 => ?_)
          obtain ⟨rfl, fa1, fa2⟩ := h23
          obtain ⟨w1, w2⟩ := MIv_l (c' := c + 1) v3 fa2 fa1 (by omega)
          obtain ⟨L, hLe, hFd, hFm, hFs, hFh, hFl, hFf, hFg⟩ := FB_all hX hl0
          rw [← hq, ← hLe] at fa1
          have hex : eqx mdX M M23 := v4.trans w2
          refine G_al0 hC dX10_need_26 ?_
          refine G_il1 hC dX10_need_27 ?_
          refine G_il2 hC dX10_need_28 ?_
          refine G_callVI hC (c_X10_needOf (i := g) (d := e) hGr hX fa1 hFm hFf (by omega) (by omega)) mv_X10_275 (by first | assumption | rfl) (by omega) (by decide) rfl (by decide) dX10_need_29 rfl (Nat.le_of_ble_eq_true rfl) rfl (fun z29 M29 P29 h29 => ?_)
          obtain ⟨rfl, rfl, rfl⟩ := h29
          exact G_iret hC hQ dX10_need_32 ⟨_, rfl, rfl, by unfold needS; rw [if_pos ⟨hg, hd⟩, nd_mn hLe hFs, hq]; simp, w1, hex⟩
        · exact absurd c13 (by omega)
    · refine G_al0 hC dX10_need_0 ?_
      refine G_il1 hC dX10_need_1 ?_
      refine G_callVI hC (c_X10_isGuest1 hS hI (by unfold i32r; omega) hg) mv_X10_192 (by first | assumption | rfl) (by omega) (by decide) rfl (by decide) dX10_need_2 rfl (Nat.le_of_ble_eq_true rfl) rfl (fun z2 M2 P2 h2 => ?_)
      obtain ⟨rfl, rfl, rfl⟩ := h2
      refine G_if_eq (tgt := 16) hC dX10_need_5 (by decide) (by omega) (fun c5 => ?_) (fun c5 => ?_)
      · exact absurd c5 (by omega)
      · refine G_al0 hC dX10_need_8 ?_
        refine G_il2 hC dX10_need_9 ?_
        refine G_callVI hC (c_X10_isDish0 hS hI (by unfold i32r; omega) hd) mv_X10_195 (by first | assumption | rfl) (by omega) (by decide) rfl (by decide) dX10_need_10 rfl (Nat.le_of_ble_eq_true rfl) rfl (fun z10 M10 P10 h10 => ?_)
        obtain ⟨rfl, rfl, rfl⟩ := h10
        refine G_if_ne (tgt := 18) hC dX10_need_13 (by decide) (by omega) (fun c13 => ?_) (fun c13 => ?_)
        · exact absurd rfl c13
        · refine G_iconst hC dX10_need_16 ?_
          exact G_iret hC hQ dX10_need_17 ⟨_, rfl, rfl, by unfold needS; rw [if_neg (fun z => hd z.2)], hI.mono (by omega), eqx.refl⟩
  · refine G_al0 hC dX10_need_0 ?_
    refine G_il1 hC dX10_need_1 ?_
    refine G_callVI hC (c_X10_isGuest0 hS hI (by unfold i32r; omega) hg) mv_X10_192 (by first | assumption | rfl) (by omega) (by decide) rfl (by decide) dX10_need_2 rfl (Nat.le_of_ble_eq_true rfl) rfl (fun z2 M2 P2 h2 => ?_)
    obtain ⟨rfl, rfl, rfl⟩ := h2
    refine G_if_eq (tgt := 16) hC dX10_need_5 (by decide) (by omega) (fun c5 => ?_) (fun c5 => ?_)
    · refine G_iconst hC dX10_need_16 ?_
      exact G_iret hC hQ dX10_need_17 ⟨_, rfl, rfl, by unfold needS; rw [if_neg (fun z => hg z.1)], hI.mono (by omega), eqx.refl⟩
    · exact absurd rfl c5
set_option maxHeartbeats 4000000 in
set_option maxRecDepth 100000 in
theorem c_X10_first {l : Launch} {c : Nat} {S : AS} {N : Nat} {lq : Nat → Nat} {i d : Int} {M : Mem} {P : PMem} (hS : SOK c S) (hK : TOK S) (hI : MIv c M P S) (hLk : lkR S N lq) (hc5 : c ≤ 520) (hi : i32r i) (hd0 : i32r d)  : CtI l yX10_first cX10_first 7 (some .int) 4 101 77 [vR 45, vI i, vI d] M P (mR (c + 1) M P S (firstS S i d)) := by
  refine Ct_of (own := RX10) (L := [vR 45, vI i, vI d, vX 1, vX 1, vX 1, vX 1]) (by decide) rfl rfl (Nat.le_of_ble_eq_true rfl) (fun X Y hl hC hQ => ?_)
  obtain ⟨hGr, ⟨⟨g0, g1, g2, g3, g4⟩, g5⟩, ⟨g6, g7⟩, g8, g9, ⟨g10, g11⟩, g12⟩ := id hI
  obtain ⟨s1, ⟨s2, s3, s4, s5, s6, s7, s8⟩, ⟨s9, s10, s11, s12⟩, s13, s14, s15, s16, s17, s18⟩ := id hS
  obtain ⟨m1, m2, m3, m4⟩ := id s14
  have hX := lk_KX hS hLk (T' := sT S) rfl
  have hlo := m1.lo
  obtain ⟨l0, hl0, hq⟩ := lk_at (c := c) hLk hlo m2
  obtain ⟨st, hst⟩ : ∃ st : Nat, M 45 37 = (st : Int) := ⟨(M 45 37).toNat, by have := g12.1; omega⟩
  have hstc : st ≤ 16 * c := by have := g12.2.1; omega
  unfold i32r at *
  by_cases hg : isG S i
  · by_cases hd : isD S d
    · obtain ⟨g, rfl⟩ : ∃ g : Nat, i = (g : Int) := ⟨i.toNat, by have := hg.1; omega⟩
      obtain ⟨e, rfl⟩ : ∃ e : Nat, d = (e : Int) := ⟨d.toNat, by have := hd.1; omega⟩
      have hg2 := hg.2
      have hd2 := hd.2
      refine G_al0 hC dX10_first_0 ?_
      refine G_il1 hC dX10_first_1 ?_
      refine G_callVI hC (c_X10_isGuest1 hS hI (by unfold i32r; omega) hg) mv_X10_192 (by first | assumption | rfl) (by omega) (by decide) rfl (by decide) dX10_first_2 rfl (Nat.le_of_ble_eq_true rfl) rfl (fun z2 M2 P2 h2 => ?_)
      obtain ⟨rfl, rfl, rfl⟩ := h2
      refine G_if_eq (tgt := 16) hC dX10_first_5 (by decide) (by omega) (fun c5 => ?_) (fun c5 => ?_)
      · exact absurd c5 (by omega)
      · refine G_al0 hC dX10_first_8 ?_
        refine G_il2 hC dX10_first_9 ?_
        refine G_callVI hC (c_X10_isDish1 hS hI (by unfold i32r; omega) hd) mv_X10_195 (by first | assumption | rfl) (by omega) (by decide) rfl (by decide) dX10_first_10 rfl (Nat.le_of_ble_eq_true rfl) rfl (fun z10 M10 P10 h10 => ?_)
        obtain ⟨rfl, rfl, rfl⟩ := h10
        refine G_if_ne (tgt := 18) hC dX10_first_13 (by decide) (by omega) (fun c13 => ?_) (fun c13 => ?_)
        · refine G_al0 hC dX10_first_18 ?_
          refine G_callVV hC (c_X10_sits hGr g0 s7) mv_X10_220 (by first | assumption | rfl) (by omega) (by decide) rfl (by decide) dX10_first_19 rfl (Nat.le_of_ble_eq_true rfl) rfl (fun M19 P19 h19 => ?_)
          obtain ⟨rfl, v0⟩ := h19
          obtain ⟨v1, v2⟩ := si_R hS hK hI v0
          obtain ⟨v3, v4⟩ := siI_M hI v0
          have v37 : M19 45 37 = (st : Int) := by rw [v0.2.2 45 (by omega)]; exact hst
          refine G_al0 hC dX10_first_22 ?_
          refine G_callVV hC (c_X10_findAll hGr v1 hX v2 hlo hl0 hq v3.2.2.2.2.2.2 v37 (by omega)) mv_X10_272 (by first | assumption | rfl) (by omega) (by decide) rfl (by decide) dX10_first_23 rfl (Nat.le_of_ble_eq_true rfl) rfl (fun M23 P23 h23 => ?_)
          obtain ⟨rfl, fa1, fa2⟩ := h23
          obtain ⟨w1, w2⟩ := MIv_l (c' := c + 1) v3 fa2 fa1 (by omega)
          obtain ⟨L, hLe, hFd, hFm, hFs, hFh, hFl, hFf, hFg⟩ := FB_all hX hl0
          rw [← hq, ← hLe] at fa1
          have hex : eqx mdX M M23 := v4.trans w2
          have hmr := mnL_r (Pd := fun x => dgf x.1 g = e) hFf L.length
          obtain ⟨⟨l1, l2, l3⟩, ⟨l4, l5, l6⟩, l7, l8⟩ := id fa1
          have hfs := mnL_so (Pd := fun x => dgf x.1 g = e) hFs L.length (Nat.le_refl _)
          have hnl : 0 < L.length ∨ L.length = 0 := by omega
          obtain ⟨ndv, hndv⟩ : ∃ v, v = mnL (fun x => dgf x.1 g = e) L L.length := ⟨_, rfl⟩
          rw [← hndv] at hmr hfs
          have hfin : firstS S (g : Int) (e : Int) = fiF (sT S) (lq l0) g e := by unfold firstS; rw [if_pos ⟨hg, hd⟩, hq]; simp
          by_cases hpos : 0 < ndv
          · obtain ⟨k0, f, z1, z2, z3⟩ : ∃ (k0 : Nat) (f : BE), k0 < L.length ∧ FST (fun x => dgf x.1 g = e) L k0 f ∧ ndv = (f.2.1 : Int) := by
              rcases hfs with ⟨z, -⟩ | z
              · omega
              · exact z
            have hk00 : k0 ≠ 0 := fun z => by have := (hFh k0 f z2.1).1.mpr z; omega
            have hfi : fiF (sT S) (lq l0) g e = (f.2.2 : Int) := by unfold fiF; rw [← hLe, fstN_1 z2]; exact if_neg hk00
            have hf55 := hFg f (List.mem_of_getElem? z2.1)
            have hlp : ∀ (c2 k : Nat) (kv bv : Int) (x6 : AV), k + c2 = L.length → kv = (k : Int) → bv = (if k ≤ k0 then -4 else (f.2.2 : Int)) → G X Y 40 [vR 45, vI g, vI e, vI ndv, vI bv, vI kv, x6] [] M23 P := by
              intro c2
              induction c2 with
              | zero =>
                intro k kv bv x6 hk e1 e2
                subst e1; subst e2
                rw [if_neg (show ¬ k ≤ k0 by omega)]
                refine G_il5 hC dX10_first_40 ?_
                refine G_al0 hC dX10_first_42 ?_
                refine G_getI hC fl_X10_250 (by first | assumption | rfl) (by omega) dX10_first_43 ?_
                rw [l1]
                refine G_icmp_ge (tgt := 131) hC dX10_first_46 (by decide) (by omega) (by omega) (fun c46 => ?_) (fun c46 => ?_)
                · refine G_il4 hC dX10_first_131 ?_
                  exact G_iret hC hQ dX10_first_133 ⟨_, rfl, rfl, by rw [hfin, hfi], w1, hex⟩
                · exact absurd c46 (by omega)
              | succ c2 ih =>
                intro k kv bv x6 hk e1 e2
                subst e1
                obtain ⟨x, hek⟩ : ∃ x, L[k]? = some x := ⟨L[k], List.getElem?_eq_getElem (by omega)⟩
                obtain ⟨c1, c2', c3, c4⟩ := l7 k x hek
                obtain ⟨le, hle1, hle2⟩ := hFm x (List.mem_of_getElem? hek)
                obtain ⟨el1, el2, el3, el4, el5, el6⟩ := KX_el hX hle1 hle2
                have hfr := hFf x (List.mem_of_getElem? hek)
                have hfo := hFg x (List.mem_of_getElem? hek)
                have hsr := se_r (f := dgf x.1) (d := e) (tn (sT S))
                have hsi := se_iff (i := g) (d := e) el2 (by omega) (by omega)
                by_cases hp : dgf x.1 g = e ∧ x.2.1 = f.2.1
                · have hse := hsi.mpr hp.1
                  have hp2 := hp.2
                  have hkk : k0 ≤ k := by
                    rcases Nat.lt_or_ge k k0 with q | q
                    · exact absurd hp.1 (z2.2.2 k x q hek)
                    · exact q
                  by_cases hke : k = k0
                  · have hxf : x = f := by
                      have := z2.1
                      rw [← hke, hek] at this
                      exact Option.some.inj this
                    rw [if_pos (by omega)] at e2
                    subst e2
                    refine G_il5 hC dX10_first_40 ?_
                    refine G_al0 hC dX10_first_42 ?_
                    refine G_getI hC fl_X10_250 (by first | assumption | rfl) (by omega) dX10_first_43 ?_
                    rw [l1]
                    refine G_icmp_ge (tgt := 131) hC dX10_first_46 (by decide) (by omega) (by omega) (fun c46 => ?_) (fun c46 => ?_)
                    · exact absurd c46 (by omega)
                    · refine G_il3 hC dX10_first_49 ?_
                      refine G_if_le (tgt := 131) hC dX10_first_50 (by decide) (by omega) (fun c50 => ?_) (fun c50 => ?_)
                      · exact absurd c50 (by omega)
                      · refine G_al0 hC dX10_first_53 ?_
                        refine G_al0 hC dX10_first_54 ?_
                        refine G_getR hC fl_X10_77 (by first | assumption | rfl) (by omega) (by first | assumption | exact hGr _ _ rfl) dX10_first_55 ?_
                        refine G_il5 hC dX10_first_58 ?_
                        refine G_ialoadN (n := k) hC (by first | assumption | rfl) (by omega) (by omega) (by omega) dX10_first_60 ?_
                        rw [c1]
                        refine G_il2 hC dX10_first_61 ?_
                        refine G_callVI hC (c_X10_seatIn (n := tn (sT S)) (f := dgf x.1) (d := e) hGr (by rw [el3]; exact l3) s7 el1 el2 (by omega)) mv_X10_244 (by first | assumption | rfl) (by omega) (by decide) rfl (by decide) dX10_first_62 rfl (Nat.le_of_ble_eq_true rfl) rfl (fun z62 M62 P62 h62 => ?_)
                        obtain ⟨rfl, rfl, rfl⟩ := h62
                        rw [hse]
                        refine G_il1 hC dX10_first_65 ?_
                        refine G_icmp_ne (tgt := 84) hC dX10_first_66 (by decide) (by omega) (by omega) (fun c66 => ?_) (fun c66 => ?_)
                        · exact absurd rfl c66
                        · refine G_al0 hC dX10_first_69 ?_
                          refine G_getR hC fl_X10_80 (by first | assumption | rfl) (by omega) (by first | assumption | exact hGr _ _ rfl) dX10_first_70 ?_
                          refine G_il5 hC dX10_first_73 ?_
                          refine G_ialoadN (n := k) hC (by first | assumption | rfl) (by omega) (by omega) (by omega) dX10_first_75 ?_
                          rw [c2']
                          refine G_il3 hC dX10_first_76 ?_
                          refine G_icmp_ne (tgt := 84) hC dX10_first_77 (by decide) (by omega) (by omega) (fun c77 => ?_) (fun c77 => ?_)
                          · exact absurd (by omega) c77
                          · refine G_iconst hC dX10_first_80 ?_
                            refine G_goto (tgt := 85) hC dX10_first_81 (by decide) ?_
                            refine G_is6 hC dX10_first_85 rfl ?_
                            refine G_il6 hC dX10_first_87 ?_
                            refine G_if_eq (tgt := 121) hC dX10_first_89 (by decide) (by omega) (fun c89 => ?_) (fun c89 => ?_)
                            · exact absurd c89 (by omega)
                            · refine G_il4 hC dX10_first_92 ?_
                              refine G_bipush hC dX10_first_94 (by decide) ?_
                              refine G_icmp_eq (tgt := 111) hC dX10_first_96 (by decide) (by omega) (by omega) (fun c96 => ?_) (fun c96 => ?_)
                              · refine G_al0 hC dX10_first_111 ?_
                                refine G_getR hC fl_X10_83 (by first | assumption | rfl) (by omega) (by first | assumption | exact hGr _ _ rfl) dX10_first_112 ?_
                                refine G_il5 hC dX10_first_115 ?_
                                refine G_ialoadN (n := k) hC (by first | assumption | rfl) (by omega) (by omega) (by omega) dX10_first_117 ?_
                                rw [c3]
                                refine G_goto (tgt := 123) hC dX10_first_118 (by decide) ?_
                                refine G_is4 hC dX10_first_123 rfl ?_
                                refine G_inc5 hC dX10_first_125 rfl ?_
                                refine G_goto (tgt := 40) hC dX10_first_128 (by decide) ?_
                                exact ih (k + 1) _ _ _ (by omega) (by omega) (by rw [if_neg (by omega), hxf])
                              · exact absurd rfl c96
                  · have hso := (hFs k0 k f x hkk z2.1 hek).2 (by omega)
                    rw [if_neg (by omega)] at e2
                    subst e2
                    refine G_il5 hC dX10_first_40 ?_
                    refine G_al0 hC dX10_first_42 ?_
                    refine G_getI hC fl_X10_250 (by first | assumption | rfl) (by omega) dX10_first_43 ?_
                    rw [l1]
                    refine G_icmp_ge (tgt := 131) hC dX10_first_46 (by decide) (by omega) (by omega) (fun c46 => ?_) (fun c46 => ?_)
                    · exact absurd c46 (by omega)
                    · refine G_il3 hC dX10_first_49 ?_
                      refine G_if_le (tgt := 131) hC dX10_first_50 (by decide) (by omega) (fun c50 => ?_) (fun c50 => ?_)
                      · exact absurd c50 (by omega)
                      · refine G_al0 hC dX10_first_53 ?_
                        refine G_al0 hC dX10_first_54 ?_
                        refine G_getR hC fl_X10_77 (by first | assumption | rfl) (by omega) (by first | assumption | exact hGr _ _ rfl) dX10_first_55 ?_
                        refine G_il5 hC dX10_first_58 ?_
                        refine G_ialoadN (n := k) hC (by first | assumption | rfl) (by omega) (by omega) (by omega) dX10_first_60 ?_
                        rw [c1]
                        refine G_il2 hC dX10_first_61 ?_
                        refine G_callVI hC (c_X10_seatIn (n := tn (sT S)) (f := dgf x.1) (d := e) hGr (by rw [el3]; exact l3) s7 el1 el2 (by omega)) mv_X10_244 (by first | assumption | rfl) (by omega) (by decide) rfl (by decide) dX10_first_62 rfl (Nat.le_of_ble_eq_true rfl) rfl (fun z62 M62 P62 h62 => ?_)
                        obtain ⟨rfl, rfl, rfl⟩ := h62
                        rw [hse]
                        refine G_il1 hC dX10_first_65 ?_
                        refine G_icmp_ne (tgt := 84) hC dX10_first_66 (by decide) (by omega) (by omega) (fun c66 => ?_) (fun c66 => ?_)
                        · exact absurd rfl c66
                        · refine G_al0 hC dX10_first_69 ?_
                          refine G_getR hC fl_X10_80 (by first | assumption | rfl) (by omega) (by first | assumption | exact hGr _ _ rfl) dX10_first_70 ?_
                          refine G_il5 hC dX10_first_73 ?_
                          refine G_ialoadN (n := k) hC (by first | assumption | rfl) (by omega) (by omega) (by omega) dX10_first_75 ?_
                          rw [c2']
                          refine G_il3 hC dX10_first_76 ?_
                          refine G_icmp_ne (tgt := 84) hC dX10_first_77 (by decide) (by omega) (by omega) (fun c77 => ?_) (fun c77 => ?_)
                          · exact absurd (by omega) c77
                          · refine G_iconst hC dX10_first_80 ?_
                            refine G_goto (tgt := 85) hC dX10_first_81 (by decide) ?_
                            refine G_is6 hC dX10_first_85 rfl ?_
                            refine G_il6 hC dX10_first_87 ?_
                            refine G_if_eq (tgt := 121) hC dX10_first_89 (by decide) (by omega) (fun c89 => ?_) (fun c89 => ?_)
                            · exact absurd c89 (by omega)
                            · refine G_il4 hC dX10_first_92 ?_
                              refine G_bipush hC dX10_first_94 (by decide) ?_
                              refine G_icmp_eq (tgt := 111) hC dX10_first_96 (by decide) (by omega) (by omega) (fun c96 => ?_) (fun c96 => ?_)
                              · exact absurd c96 (by omega)
                              · refine G_al0 hC dX10_first_99 ?_
                                refine G_getR hC fl_X10_83 (by first | assumption | rfl) (by omega) (by first | assumption | exact hGr _ _ rfl) dX10_first_100 ?_
                                refine G_il5 hC dX10_first_103 ?_
                                refine G_ialoadN (n := k) hC (by first | assumption | rfl) (by omega) (by omega) (by omega) dX10_first_105 ?_
                                rw [c3]
                                refine G_il4 hC dX10_first_106 ?_
                                refine G_icmp_ge (tgt := 121) hC dX10_first_108 (by decide) (by omega) (by omega) (fun c108 => ?_) (fun c108 => ?_)
                                · refine G_il4 hC dX10_first_121 ?_
                                  refine G_is4 hC dX10_first_123 rfl ?_
                                  refine G_inc5 hC dX10_first_125 rfl ?_
                                  refine G_goto (tgt := 40) hC dX10_first_128 (by decide) ?_
                                  exact ih (k + 1) _ _ _ (by omega) (by omega) (by rw [if_neg (by omega)])
                                · exact absurd c108 (by omega)
                · have hbs : bv = (if k + 1 ≤ k0 then -4 else (f.2.2 : Int)) := by
                    by_cases hke : k = k0
                    · exfalso
                      have := z2.1
                      rw [← hke, hek] at this
                      have hxf := Option.some.inj this
                      subst hxf
                      exact hp ⟨z2.2.1, rfl⟩
                    · rw [e2]
                      by_cases hkk : k ≤ k0
                      · rw [if_pos hkk, if_pos (by omega)]
                      · rw [if_neg hkk, if_neg (by omega)]
                  have hbr : -4 ≤ bv ∧ bv ≤ 55 := by rw [hbs]; split <;> omega
                  by_cases hp1 : dgf x.1 g = e
                  · have hse := hsi.mpr hp1
                    have hp2 : ¬ x.2.1 = f.2.1 := fun z => hp ⟨hp1, z⟩
                    refine G_il5 hC dX10_first_40 ?_
                    refine G_al0 hC dX10_first_42 ?_
                    refine G_getI hC fl_X10_250 (by first | assumption | rfl) (by omega) dX10_first_43 ?_
                    rw [l1]
                    refine G_icmp_ge (tgt := 131) hC dX10_first_46 (by decide) (by omega) (by omega) (fun c46 => ?_) (fun c46 => ?_)
                    · exact absurd c46 (by omega)
                    · refine G_il3 hC dX10_first_49 ?_
                      refine G_if_le (tgt := 131) hC dX10_first_50 (by decide) (by omega) (fun c50 => ?_) (fun c50 => ?_)
                      · exact absurd c50 (by omega)
                      · refine G_al0 hC dX10_first_53 ?_
                        refine G_al0 hC dX10_first_54 ?_
                        refine G_getR hC fl_X10_77 (by first | assumption | rfl) (by omega) (by first | assumption | exact hGr _ _ rfl) dX10_first_55 ?_
                        refine G_il5 hC dX10_first_58 ?_
                        refine G_ialoadN (n := k) hC (by first | assumption | rfl) (by omega) (by omega) (by omega) dX10_first_60 ?_
                        rw [c1]
                        refine G_il2 hC dX10_first_61 ?_
                        refine G_callVI hC (c_X10_seatIn (n := tn (sT S)) (f := dgf x.1) (d := e) hGr (by rw [el3]; exact l3) s7 el1 el2 (by omega)) mv_X10_244 (by first | assumption | rfl) (by omega) (by decide) rfl (by decide) dX10_first_62 rfl (Nat.le_of_ble_eq_true rfl) rfl (fun z62 M62 P62 h62 => ?_)
                        obtain ⟨rfl, rfl, rfl⟩ := h62
                        rw [hse]
                        refine G_il1 hC dX10_first_65 ?_
                        refine G_icmp_ne (tgt := 84) hC dX10_first_66 (by decide) (by omega) (by omega) (fun c66 => ?_) (fun c66 => ?_)
                        · exact absurd rfl c66
                        · refine G_al0 hC dX10_first_69 ?_
                          refine G_getR hC fl_X10_80 (by first | assumption | rfl) (by omega) (by first | assumption | exact hGr _ _ rfl) dX10_first_70 ?_
                          refine G_il5 hC dX10_first_73 ?_
                          refine G_ialoadN (n := k) hC (by first | assumption | rfl) (by omega) (by omega) (by omega) dX10_first_75 ?_
                          rw [c2']
                          refine G_il3 hC dX10_first_76 ?_
                          refine G_icmp_ne (tgt := 84) hC dX10_first_77 (by decide) (by omega) (by omega) (fun c77 => ?_) (fun c77 => ?_)
                          · refine G_iconst hC dX10_first_84 ?_
                            refine G_is6 hC dX10_first_85 rfl ?_
                            refine G_il6 hC dX10_first_87 ?_
                            refine G_if_eq (tgt := 121) hC dX10_first_89 (by decide) (by omega) (fun c89 => ?_) (fun c89 => ?_)
                            · refine G_il4 hC dX10_first_121 ?_
                              refine G_is4 hC dX10_first_123 rfl ?_
                              refine G_inc5 hC dX10_first_125 rfl ?_
                              refine G_goto (tgt := 40) hC dX10_first_128 (by decide) ?_
                              exact ih (k + 1) _ _ _ (by omega) (by omega) hbs
                            · exact absurd rfl c89
                          · exact absurd c77 (by omega)
                  · have hse : ¬ seN (dgf x.1) e (tn (sT S)) = (g : Int) := fun z => hp1 (hsi.mp z)
                    refine G_il5 hC dX10_first_40 ?_
                    refine G_al0 hC dX10_first_42 ?_
                    refine G_getI hC fl_X10_250 (by first | assumption | rfl) (by omega) dX10_first_43 ?_
                    rw [l1]
                    refine G_icmp_ge (tgt := 131) hC dX10_first_46 (by decide) (by omega) (by omega) (fun c46 => ?_) (fun c46 => ?_)
                    · exact absurd c46 (by omega)
                    · refine G_il3 hC dX10_first_49 ?_
                      refine G_if_le (tgt := 131) hC dX10_first_50 (by decide) (by omega) (fun c50 => ?_) (fun c50 => ?_)
                      · exact absurd c50 (by omega)
                      · refine G_al0 hC dX10_first_53 ?_
                        refine G_al0 hC dX10_first_54 ?_
                        refine G_getR hC fl_X10_77 (by first | assumption | rfl) (by omega) (by first | assumption | exact hGr _ _ rfl) dX10_first_55 ?_
                        refine G_il5 hC dX10_first_58 ?_
                        refine G_ialoadN (n := k) hC (by first | assumption | rfl) (by omega) (by omega) (by omega) dX10_first_60 ?_
                        rw [c1]
                        refine G_il2 hC dX10_first_61 ?_
                        refine G_callVI hC (c_X10_seatIn (n := tn (sT S)) (f := dgf x.1) (d := e) hGr (by rw [el3]; exact l3) s7 el1 el2 (by omega)) mv_X10_244 (by first | assumption | rfl) (by omega) (by decide) rfl (by decide) dX10_first_62 rfl (Nat.le_of_ble_eq_true rfl) rfl (fun z62 M62 P62 h62 => ?_)
                        obtain ⟨rfl, rfl, rfl⟩ := h62
                        refine G_il1 hC dX10_first_65 ?_
                        refine G_icmp_ne (tgt := 84) hC dX10_first_66 (by decide) (by omega) (by omega) (fun c66 => ?_) (fun c66 => ?_)
                        · refine G_iconst hC dX10_first_84 ?_
                          refine G_is6 hC dX10_first_85 rfl ?_
                          refine G_il6 hC dX10_first_87 ?_
                          refine G_if_eq (tgt := 121) hC dX10_first_89 (by decide) (by omega) (fun c89 => ?_) (fun c89 => ?_)
                          · refine G_il4 hC dX10_first_121 ?_
                            refine G_is4 hC dX10_first_123 rfl ?_
                            refine G_inc5 hC dX10_first_125 rfl ?_
                            refine G_goto (tgt := 40) hC dX10_first_128 (by decide) ?_
                            exact ih (k + 1) _ _ _ (by omega) (by omega) hbs
                          · exact absurd rfl c89
                        · exact absurd c66 hse
            refine G_al0 hC dX10_first_26 ?_
            refine G_il1 hC dX10_first_27 ?_
            refine G_il2 hC dX10_first_28 ?_
            refine G_callVI hC (c_X10_needOf (i := g) (d := e) hGr hX fa1 hFm hFf (by omega) (by omega)) mv_X10_275 (by first | assumption | rfl) (by omega) (by decide) rfl (by decide) dX10_first_29 rfl (Nat.le_of_ble_eq_true rfl) rfl (fun z29 M29 P29 h29 => ?_)
            obtain ⟨rfl, rfl, rfl⟩ := h29
            rw [← hndv]
            refine G_is3 hC dX10_first_32 rfl ?_
            refine G_bipush hC dX10_first_33 (by decide) ?_
            refine G_is4 hC dX10_first_35 rfl ?_
            refine G_iconst hC dX10_first_37 ?_
            refine G_is5 hC dX10_first_38 rfl ?_
            exact hlp L.length 0 _ _ _ (by omega) rfl (by rw [if_pos (by omega)])
          · have hfi : fiF (sT S) (lq l0) g e = -4 := by
              unfold fiF
              rw [← hLe]
              rcases hfs with ⟨z, hz⟩ | ⟨k0, f, z1, z2, z3⟩
              · rw [fstN_0 (fun x hx => by
                  obtain ⟨k, hk⟩ := List.getElem?_of_mem hx
                  exact hz k x (List.getElem?_eq_some_iff.mp hk).1 hk)]
              · rw [fstN_1 z2]
                have := (hFh k0 f z2.1).1.mp (by omega)
                exact if_pos this
            refine G_al0 hC dX10_first_26 ?_
            refine G_il1 hC dX10_first_27 ?_
            refine G_il2 hC dX10_first_28 ?_
            refine G_callVI hC (c_X10_needOf (i := g) (d := e) hGr hX fa1 hFm hFf (by omega) (by omega)) mv_X10_275 (by first | assumption | rfl) (by omega) (by decide) rfl (by decide) dX10_first_29 rfl (Nat.le_of_ble_eq_true rfl) rfl (fun z29 M29 P29 h29 => ?_)
            obtain ⟨rfl, rfl, rfl⟩ := h29
            rw [← hndv]
            refine G_is3 hC dX10_first_32 rfl ?_
            refine G_bipush hC dX10_first_33 (by decide) ?_
            refine G_is4 hC dX10_first_35 rfl ?_
            refine G_iconst hC dX10_first_37 ?_
            refine G_is5 hC dX10_first_38 rfl ?_
            refine G_il5 hC dX10_first_40 ?_
            refine G_al0 hC dX10_first_42 ?_
            refine G_getI hC fl_X10_250 (by first | assumption | rfl) (by omega) dX10_first_43 ?_
            rw [l1]
            refine G_icmp_ge (tgt := 131) hC dX10_first_46 (by decide) (by omega) (by omega) (fun c46 => ?_) (fun c46 => ?_)
            · refine G_il4 hC dX10_first_131 ?_
              exact G_iret hC hQ dX10_first_133 ⟨_, rfl, rfl, by rw [hfin, hfi], w1, hex⟩
            · refine G_il3 hC dX10_first_49 ?_
              refine G_if_le (tgt := 131) hC dX10_first_50 (by decide) (by omega) (fun c50 => ?_) (fun c50 => ?_)
              · refine G_il4 hC dX10_first_131 ?_
                exact G_iret hC hQ dX10_first_133 ⟨_, rfl, rfl, by rw [hfin, hfi], w1, hex⟩
              · exact absurd c50 (by omega)
        · exact absurd c13 (by omega)
    · refine G_al0 hC dX10_first_0 ?_
      refine G_il1 hC dX10_first_1 ?_
      refine G_callVI hC (c_X10_isGuest1 hS hI (by unfold i32r; omega) hg) mv_X10_192 (by first | assumption | rfl) (by omega) (by decide) rfl (by decide) dX10_first_2 rfl (Nat.le_of_ble_eq_true rfl) rfl (fun z2 M2 P2 h2 => ?_)
      obtain ⟨rfl, rfl, rfl⟩ := h2
      refine G_if_eq (tgt := 16) hC dX10_first_5 (by decide) (by omega) (fun c5 => ?_) (fun c5 => ?_)
      · exact absurd c5 (by omega)
      · refine G_al0 hC dX10_first_8 ?_
        refine G_il2 hC dX10_first_9 ?_
        refine G_callVI hC (c_X10_isDish0 hS hI (by unfold i32r; omega) hd) mv_X10_195 (by first | assumption | rfl) (by omega) (by decide) rfl (by decide) dX10_first_10 rfl (Nat.le_of_ble_eq_true rfl) rfl (fun z10 M10 P10 h10 => ?_)
        obtain ⟨rfl, rfl, rfl⟩ := h10
        refine G_if_ne (tgt := 18) hC dX10_first_13 (by decide) (by omega) (fun c13 => ?_) (fun c13 => ?_)
        · exact absurd rfl c13
        · refine G_iconst hC dX10_first_16 ?_
          exact G_iret hC hQ dX10_first_17 ⟨_, rfl, rfl, by unfold firstS; rw [if_neg (fun z => hd z.2)], hI.mono (by omega), eqx.refl⟩
  · refine G_al0 hC dX10_first_0 ?_
    refine G_il1 hC dX10_first_1 ?_
    refine G_callVI hC (c_X10_isGuest0 hS hI (by unfold i32r; omega) hg) mv_X10_192 (by first | assumption | rfl) (by omega) (by decide) rfl (by decide) dX10_first_2 rfl (Nat.le_of_ble_eq_true rfl) rfl (fun z2 M2 P2 h2 => ?_)
    obtain ⟨rfl, rfl, rfl⟩ := h2
    refine G_if_eq (tgt := 16) hC dX10_first_5 (by decide) (by omega) (fun c5 => ?_) (fun c5 => ?_)
    · refine G_iconst hC dX10_first_16 ?_
      exact G_iret hC hQ dX10_first_17 ⟨_, rfl, rfl, by unfold firstS; rw [if_neg (fun z => hg z.1)], hI.mono (by omega), eqx.refl⟩
    · exact absurd rfl c5
