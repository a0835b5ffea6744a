/-! the reference: prices found -/
theorem clA_s {T : TB} {sv a i j : Nat} {L : List BE} {x : BE} (h : clA T sv L x a) (ha : a = i * tn T + j) (hi : i < tn T) (hj : j < tn T) (h1 : can T (dgf x.1) i j → ∃ z ∈ L, z.1 = enc (aft T (dgf x.1) i j) ∧ z.2.1 ≤ x.2.1 + hnd T i j) (h2 : i < j → ∃ z ∈ L, z.1 = enc (sw (dgf x.1) i j) ∧ z.2.1 ≤ x.2.1 + sv) : clA T sv L x (a + 1) := by
  intro i' j' hi' hj' hlt
  by_cases q : i' * tn T + j' < a
  · exact h i' j' hi' hj' q
  · have e : i' * tn T + j' = i * tn T + j := by omega
    have d : ∀ u v, v < tn T → (u * tn T + v) / tn T = u := fun u v hv => by rw [Nat.mul_comm, Nat.mul_add_div (by omega), Nat.div_eq_of_lt hv]; omega
    have e1 : i' = i := by rw [← d i' j' hj', e, d i j hj]
    subst e1
    have e2 : j' = j := by omega
    subst e2
    exact ⟨h1, h2⟩
theorem clA_m {T : TB} {sv a q c : Nat} {L L' : List BE} {x : BE} {dn dn' : Nat → Nat} (h : clA T sv L x a) (hr : pcR q c L dn L' dn') : clA T sv L' x a := fun i j hi hj hlt =>
  ⟨fun hc => pc_mono hr _ _ ((h i j hi hj hlt).1 hc), fun hc => pc_mono hr _ _ ((h i j hi hj hlt).2 hc)⟩
theorem QI_e {T : TB} {N q0 sv k m q w : Nat} {lq dn f0 : Nat → Nat} {L : List BE} {e : BE} (hX : KX T N lq f0) (hQ : QIp T N lq q0 sv L dn k e m) (hm : m ≤ 721) (he : pE T sv e.1 q w) (hw : w ≤ 99) : inN N lq q ∧ (∃ n, pth (pE T sv) n q0 q (e.2.1 + w)) ∧ cdF (dgf q) (tn T) < 46656 ∧ lieN (tn T) (dgf q) ∧ ((∀ x ∈ L, x.1 ≠ q) → L.length < 720) ∧ ((∀ x ∈ L, x.1 ≠ q) → ∀ x ∈ L, cdF (dgf x.1) (tn T) ≠ cdF (dgf q) (tn T)) ∧ (∀ x ∈ L, x.2.1 ≤ 1000000) ∧ e.2.1 + w ≤ 1000000 := by
  obtain ⟨⟨b1, b2, b3, b4⟩, ⟨c1, c2, c3, c4⟩, hA, hB, hD⟩ := id hQ
  have hem := List.mem_of_getElem? c1
  have hin := pE_in hX (b2 e hem) he
  obtain ⟨la, la1, la2⟩ := id hin
  obtain ⟨ea1, ea2, ea3, ea4, ea5, ea6⟩ := KX_el hX la1 la2
  have hp : ∃ n, pth (pE T sv) n q0 q (e.2.1 + w) := by
    obtain ⟨-, n, hn⟩ := b3 e hem
    exact ⟨n + 1, e.1, e.2.1, w, hn, he, rfl⟩
  refine ⟨hin, hp, ea4, ea1, fun z => ?_, fun z x hx hc => ?_, fun x hx => by have := (b3 x hx).1; omega, by omega⟩
  · have := QI_pc (c := e.2.1 + w) (L' := L ++ [(q, e.2.1 + w, 0)]) (dn' := ud dn L.length 0) hQ ⟨by omega, by omega⟩ hin hp (Or.inr ⟨z, rfl, rfl⟩)
    have h2 := di_len this.1.1 this.1.2.1
    have h3 := hX.1.2.2.2
    rw [List.length_append] at h2
    have h4 : L.length + 1 ≤ N := h2
    omega
  · obtain ⟨lx, lx1, lx2⟩ := b2 x hx
    rw [← la2, ← lx2] at hc
    have := KX_inj hX lx1 la1 hc
    exact z x hx (by rw [← lx2, this, la2])
def fpQ (M : Mem) (P : PMem) (T : TB) (N : Nat) (lq : Nat → Nat) (st : Nat) (f0 : Nat → Nat) (q0 sv : Nat) : Mem → PMem → Prop := fun M' P' => P = P' ∧ ∃ L, MLi M' (tn T) (st + 1) f0 L ∧ (∀ x ∈ L, inN N lq x.1) ∧ (∀ x ∈ L, x.2.1 ≤ 100000) ∧ (∀ x ∈ L, ∃ n, pth (pE T sv) n q0 x.1 x.2.1) ∧ (∃ z ∈ L, z.1 = q0 ∧ z.2.1 ≤ 0) ∧ (∀ x ∈ L, clL T sv L x) ∧ cKp M M'
set_option maxHeartbeats 4000000 in
set_option maxRecDepth 100000 in
theorem c_X10_findPrices {l : Launch} {T : TB} {W f f0 lq : Nat → Nat} {N l0 st c sv : Nat} {M : Mem} {P : PMem} (hGr : GrM P) (hk : SkR M T W) (hX : KX T N lq f0) (hS : SpR M (tn T) f) (hlo : lo8 f) (hl0 : l0 < N) (hq : lq l0 = enc f) (hm : qMk c M) (h37 : M 45 37 = (st : Int)) (hst9 : st < 100000) (hsv : M 45 3 = (sv : Int)) (hsv9 : sv ≤ 99) : CtV l yX10_findPrices cX10_findPrices 6 none 3 77 77 [vR 45] M P (fpQ M P T N lq st f0 (enc f) sv) := by
  refine Ct_of (own := RX10) (L := [vR 45, vX 1, vX 1, vX 1, vX 1, vX 1]) (by decide) rfl rfl (Nat.le_of_ble_eq_true rfl) (fun X Y hl hC hQ => ?_)
  obtain ⟨⟨k0, k2⟩, ⟨o2, o6, or1, oT⟩, kg⟩ := id hk
  obtain ⟨hgT, hLQ, hf0a, hf0b⟩ := id hX
  obtain ⟨t1, t2, t3, t4⟩ := id hgT
  have hfd : ∀ i, i < tn T → f i = dgf (lq l0) i := fun i hi => by rw [hq, dgf_enc hlo (by omega)]
  obtain ⟨d1, d2, d3, d4, d5, d6⟩ := KX_el hX hl0 rfl
  have hf : lieN (tn T) f := fun g hg => by rw [hfd g hg]; exact d1 g hg
  have hi : injN (tn T) f := fun a b ha hb => by rw [hfd a ha, hfd b hb]; exact d2 a b ha hb
  have hth : thF f (tn T) = thF f0 (tn T) := by rw [thF_congr (tn T) hfd]; exact d3
  obtain ⟨nn, hnn⟩ : ∃ nn, tn T * tn T = nn := ⟨_, rfl⟩
  have hnz : (tn T : Int) * (tn T : Int) = (nn : Int) := by rw [← hnn]; simp
  have hn36 : nn ≤ 36 := by rw [← hnn]; exact Nat.mul_le_mul t1 t1
  have hlpK : ∀ (c2 m : Nat) (kv : Int) (L : List BE) (dn : Nat → Nat) (M1 : Mem) (x2 x3 x4 x5 : AV), m + c2 = 721 → RIp T N lq (enc f) sv L dn m → MLi M1 (tn T) (st + 1) f0 L → DNR M1 L dn → cKp M M1 → chR L dn L.length kv → G X Y 13 [vR 45, vI kv, x2, x3, x4, x5] [] M1 P := by
    intro c2
    induction c2 with
    | zero =>
      intro m kv L dn M1 x2 x3 x4 x5 hmc hR hML hDN hKl hch
      have h1 := hR.2.1
      have h2 := cnt_le (f := dn) (d := 1) L.length
      have h3 := hML.2.1.1
      omega
    | succ c2 ihK =>
      intro m kv L dn M1 x2 x3 x4 x5 hmc hR hML hDN hKl hch
      rcases hch with ⟨e1, hall⟩ | ⟨k, e, e1, hkl, hek, hdk, hmin⟩
      · subst e1
        have hcl : ∀ x ∈ L, clL T sv L x := fun x hx => by
          obtain ⟨j, hj⟩ := List.getElem?_of_mem hx
          exact hR.2.2.1 j x hj (hall j (List.getElem?_eq_some_iff.mp hj).1)
        have hfar : ∀ x ∈ L, x.2.1 ≤ 100000 := fun x hx => by have := (hR.1.2.2.1 x hx).1; omega
        refine G_il1 hC dX10_findPrices_13 ?_
        refine G_if_lt (tgt := 174) hC dX10_findPrices_14 (by decide) (by omega) (fun c14 => ?_) (fun c14 => ?_)
        · exact G_vret hC hQ dX10_findPrices_174 ⟨rfl, rfl, L, hML, hR.1.2.1, hfar, fun x hx => (hR.1.2.2.1 x hx).2, hR.1.2.2.2, hcl, hKl⟩
        · exact absurd c14 (by omega)
      · subst e1
        have hlen := hML.2.1.1
        have hQ0 := RI_Q hR hek hdk hmin
        have hMLu : MLi (upM M1 72 k 1) (tn T) (st + 1) f0 L := MLi_x hML (fun b hb => upM_ne (by omega) b) (fun a h1 h2 b => upM_ne (by omega) b)
        have hDNu : DNR (upM M1 72 k 1) L (ud dn k 1) := fun j hj => by
          unfold ud
          by_cases z : j = k
          · rw [if_pos z, z, upM_self]; exact ⟨rfl, Nat.le_refl _⟩
          · rw [if_neg z, upM_nej z]; exact hDN j hj
        obtain ⟨le, hle1, hle2⟩ := hR.1.2.1 e (List.mem_of_getElem? hek)
        obtain ⟨el1, el2, el3, el4, el5, el6⟩ := KX_el hX hle1 hle2
        have hlpA : ∀ (c3 a : Nat) (av : Int) (L1 : List BE) (dn1 : Nat → Nat) (M2 : Mem) (x3 x4 x5 : AV), a + c3 = nn → av = (a : Int) → QIp T N lq (enc f) sv L1 dn1 k e (m + 1) → clA T sv L1 e a → MLi M2 (tn T) (st + 1) f0 L1 → DNR M2 L1 dn1 → cKp M M2 → G X Y 26 [vR 45, vI k, vI av, x3, x4, x5] [] M2 P := by
          intro c3
          induction c3 with
          | zero =>
            intro a av L1 dn1 M2 x3 x4 x5 ha e1 hQ hA hML2 hD2 hK2
            subst e1
            have z0 := (SkR_c hk hK2).1.1
            have han : a = nn := by omega
            rw [han, ← hnn] at hA
            have hfar : ∀ x ∈ L1, x.2.1 ≤ 1000000 := fun x hx => by have := (hQ.1.2.2.1 x hx).1; omega
            refine G_il2 hC dX10_findPrices_26 ?_
            refine G_al0 hC dX10_findPrices_27 ?_
            refine G_getI hC fl_X10_116 (by first | assumption | rfl) (by omega) dX10_findPrices_28 ?_
            rw [z0]
            refine G_al0 hC dX10_findPrices_31 ?_
            refine G_getI hC fl_X10_116 (by first | assumption | rfl) (by omega) dX10_findPrices_32 ?_
            rw [z0]
            refine G_imul hC dX10_findPrices_35 ?_
            rw [hnz]
            refine G_icmp_ge (tgt := 166) hC dX10_findPrices_36 (by decide) (by omega) (by omega) (fun c36 => ?_) (fun c36 => ?_)
            · refine G_al0 hC dX10_findPrices_166 ?_
              refine G_callVI hC (c_X10_cheapest hGr hML2 hD2 hfar) mv_X10_290 (by first | assumption | rfl) (by omega) (by decide) rfl (by decide) dX10_findPrices_167 rfl (Nat.le_of_ble_eq_true rfl) rfl (fun z167 M167 P167 h167 => ?_)
              obtain ⟨rfl, rfl, hch⟩ := h167
              refine G_is1 hC dX10_findPrices_170 rfl ?_
              refine G_goto (tgt := 13) hC dX10_findPrices_171 (by decide) ?_
              exact ihK (m + 1) _ L1 dn1 _ _ _ _ _ (by omega) (Q_RI hQ (clA_L hA)) hML2 hD2 hK2 hch
            · exact absurd c36 (by omega)
          | succ c3 ih =>
            intro a av L1 dn1 M2 x3 x4 x5 ha e1 hQ hA hML2 hD2 hK2
            subst e1
            have hk2 := SkR_c hk hK2
            have z0 := hk2.1.1
            have hia : a / tn T < tn T := Nat.div_lt_of_lt_mul (by omega)
            have hja : a % tn T < tn T := Nat.mod_lt _ t2
            have hdi : (a : Int) / (tn T : Int) = ((a / tn T : Nat) : Int) := rfl
            have hmo : (a : Int) % (tn T : Int) = ((a % tn T : Nat) : Int) := rfl
            have hae : a = a / tn T * tn T + a % tn T := by rw [Nat.mul_comm]; exact (Nat.div_add_mod a (tn T)).symm
            generalize hgi : a / tn T = i at hia hdi hae
            generalize hgj : a % tn T = j at hja hmo hae
            have h99 : ∀ (L2 : List BE) (dn2 : Nat → Nat) (M3 : Mem), QIp T N lq (enc f) sv L2 dn2 k e (m + 1) → clA T sv L2 e a → (can T (dgf e.1) i j → ∃ z ∈ L2, z.1 = enc (aft T (dgf e.1) i j) ∧ z.2.1 ≤ e.2.1 + hnd T i j) → MLi M3 (tn T) (st + 1) f0 L2 → DNR M3 L2 dn2 → cKp M M3 → G X Y 99 [vR 45, vI k, vI a, vI i, vI j, x5] [] M3 P := by
              intro L2 dn2 M3 hQ2 hA2 hcn hML3 hD3 hK3
              have hk3 := SkR_c hk hK3
              have y0 := hk3.1.1
              obtain ⟨f1, f2, f3, f4⟩ := hML3.2.2.1 k e hQ2.2.1.1
              by_cases hij : i < j
              · have hE : pE T sv e.1 (enc (sw (dgf e.1) i j)) sv := Or.inr ⟨⟨i, j, hij, hja, rfl⟩, rfl⟩
                obtain ⟨u1, u2, u3, u4, u5, u6, u7, u8⟩ := QI_e hX hQ2 (by omega) hE hsv9
                have hlo2 : lo8 (sw (dgf e.1) i j) := sw_lo (dgf_lo _)
                have hce : cdF (dgf (enc (sw (dgf e.1) i j))) (tn T) = cdF (sw (dgf e.1) i j) (tn T) := cd_enc t1 hlo2
                have hlie2 : lieN (tn T) (sw (dgf e.1) i j) := fun g hg => by have := u4 g hg; rw [dgf_enc hlo2 (by omega)] at this; exact this
                have hcast : (e.2.1 : Int) + (sv : Int) = ((e.2.1 + sv : Nat) : Int) := by omega
                refine G_il3 hC dX10_findPrices_99 ?_
                refine G_il4 hC dX10_findPrices_100 ?_
                refine G_icmp_ge (tgt := 160) hC dX10_findPrices_102 (by decide) (by omega) (by omega) (fun c102 => ?_) (fun c102 => ?_)
                · exact absurd c102 (by omega)
                · refine G_al0 hC dX10_findPrices_105 ?_
                  refine G_al0 hC dX10_findPrices_106 ?_
                  refine G_getR hC fl_X10_77 (by first | assumption | rfl) (by omega) (by first | assumption | exact hGr _ _ rfl) dX10_findPrices_107 ?_
                  refine G_il1 hC dX10_findPrices_110 ?_
                  refine G_ialoadN (n := k) hC (by first | assumption | rfl) (by omega) (by omega) (by omega) dX10_findPrices_111 ?_
                  rw [f1]
                  refine G_callVV hC (c_X10_loads hGr y0 t1 (by rw [el3]; exact hML3.1.2.2) el1 el2) mv_X10_263 (by first | assumption | rfl) (by omega) (by decide) rfl (by decide) dX10_findPrices_112 rfl (Nat.le_of_ble_eq_true rfl) rfl (fun M112 P112 h112 => ?_)
                  obtain ⟨rfl, p1, p2⟩ := h112
                  have hK4 := hK3.trans (cKp_l (lK_63 p2))
                  have hML4 := MLi_63 hML3 p2
                  have hD4 := DNR_x hD3 (fun b => p2 72 (by unfold s63; omega) b)
                  have hk4 := SkR_c hk hK4
                  refine G_al0 hC dX10_findPrices_115 ?_
                  refine G_getR hC fl_X10_61 (by first | assumption | rfl) (by omega) (by first | assumption | exact hGr _ _ rfl) dX10_findPrices_116 ?_
                  refine G_il3 hC dX10_findPrices_119 ?_
                  refine G_ialoadN (n := i) hC (by first | assumption | rfl) (by omega) (by omega) (by omega) dX10_findPrices_120 ?_
                  rw [p1 i hia]
                  refine G_is5 hC dX10_findPrices_121 rfl ?_
                  refine G_al0 hC dX10_findPrices_123 ?_
                  refine G_getR hC fl_X10_61 (by first | assumption | rfl) (by omega) (by first | assumption | exact hGr _ _ rfl) dX10_findPrices_124 ?_
                  refine G_il3 hC dX10_findPrices_127 ?_
                  refine G_al0 hC dX10_findPrices_128 ?_
                  refine G_getR hC fl_X10_61 (by first | assumption | rfl) (by omega) (by first | assumption | exact hGr _ _ rfl) dX10_findPrices_129 ?_
                  refine G_il4 hC dX10_findPrices_132 ?_
                  refine G_ialoadN (n := j) hC (by first | assumption | rfl) (by omega) (by omega) (by omega) dX10_findPrices_134 ?_
                  rw [p1 j hja]
                  refine G_iastoreN (n := i) hC (by first | assumption | rfl) (by omega) (by omega) (by omega) dX10_findPrices_135 ?_
                  refine G_al0 hC dX10_findPrices_136 ?_
                  refine G_getR hC fl_X10_61 (by first | assumption | rfl) (by omega) (by first | assumption | exact hGr _ _ rfl) dX10_findPrices_137 ?_
                  refine G_il4 hC dX10_findPrices_140 ?_
                  refine G_il5 hC dX10_findPrices_142 ?_
                  refine G_iastoreN (n := j) hC (by first | assumption | rfl) (by omega) (by omega) (by omega) dX10_findPrices_144 ?_
                  refine G_al0 hC dX10_findPrices_145 ?_
                  refine G_al0 hC dX10_findPrices_146 ?_
                  refine G_getR hC fl_X10_80 (by first | assumption | rfl) (by omega) (by first | assumption | exact hGr _ _ rfl) dX10_findPrices_147 ?_
                  refine G_il1 hC dX10_findPrices_150 ?_
                  refine G_ialoadN (n := k) hC (by first | assumption | rfl) (by omega) (by omega) (by omega) dX10_findPrices_151 ?_
                  rw [upM_ne (by omega), upM_ne (by omega), (hML4.2.2.1 k e hQ2.2.1.1).2.1]
                  refine G_al0 hC dX10_findPrices_152 ?_
                  refine G_getI hC fl_X10_177 (by first | assumption | rfl) (by omega) dX10_findPrices_153 ?_
                  rw [upM_ne (by omega), upM_ne (by omega), hK4.2 3 (by omega) (by omega) (by omega), hsv]
                  refine G_iadd hC dX10_findPrices_156 ?_
                  rw [hcast]
                  have hSp : SpR (upM (upM M112 63 i (nv (dgf e.1 j))) 63 j (nv (dgf e.1 i))) (tn T) (sw (dgf e.1) i j) := SpR_up (d := dgf e.1 i) (SpR_up (d := dgf e.1 j) p1 rfl) rfl
                  have hMu : MLi (upM (upM M112 63 i (nv (dgf e.1 j))) 63 j (nv (dgf e.1 i))) (tn T) (st + 1) f0 L2 := MLi_63 (MLi_63 hML4 s63_up) s63_up
                  have hDu : DNR (upM (upM M112 63 i (nv (dgf e.1 j))) 63 j (nv (dgf e.1 i))) L2 dn2 := DNR_x hD4 (fun b => by rw [upM_ne (by omega), upM_ne (by omega)])
                  have g0u : upM (upM M112 63 i (nv (dgf e.1 j))) 63 j (nv (dgf e.1 i)) 45 0 = (tn T : Int) := by rw [upM_ne (by omega), upM_ne (by omega)]; exact hk4.1.1
                  have hKu : cKp M (upM (upM M112 63 i (nv (dgf e.1 j))) 63 j (nv (dgf e.1 i))) := (hK4.trans (cKp_l (lK_63 s63_up))).trans (cKp_l (lK_63 s63_up))
                  refine G_callVV hC (c_X10_costs (q := enc (sw (dgf e.1) i j)) hGr g0u t1 hMu hDu hSp hlie2 hce.symm u3 u8 u7 u5 u6) mv_X10_287 (by first | assumption | rfl) (by omega) (by decide) rfl (by decide) dX10_findPrices_157 rfl (Nat.le_of_ble_eq_true rfl) rfl (fun M157 P157 h157 => ?_)
                  obtain ⟨rfl, L3, dn3, r1, r2, r3, r4⟩ := h157
                  have hQ3 := QI_pc hQ2 ⟨by omega, by omega⟩ u1 u2 r3
                  have hA3 := clA_s (clA_m hA2 r3) hae hia hja (fun z => pc_mono r3 _ _ (hcn z)) (fun _ => pc_in r3)
                  refine G_inc2 hC dX10_findPrices_160 rfl ?_
                  refine G_goto (tgt := 26) hC dX10_findPrices_163 (by decide) ?_
                  exact ih (a + 1) _ L3 dn3 _ _ _ _ (by omega) (by omega) hQ3 hA3 r1 r2 (hKu.trans r4)
              · have hA3 := clA_s hA2 hae hia hja hcn (fun z => absurd z hij)
                refine G_il3 hC dX10_findPrices_99 ?_
                refine G_il4 hC dX10_findPrices_100 ?_
                refine G_icmp_ge (tgt := 160) hC dX10_findPrices_102 (by decide) (by omega) (by omega) (fun c102 => ?_) (fun c102 => ?_)
                · refine G_inc2 hC dX10_findPrices_160 rfl ?_
                  refine G_goto (tgt := 26) hC dX10_findPrices_163 (by decide) ?_
                  exact ih (a + 1) _ L2 dn2 _ _ _ _ (by omega) (by omega) hQ2 hA3 hML3 hD3 hK3
                · exact absurd c102 (by omega)
            obtain ⟨f1, f2, f3, f4⟩ := hML2.2.2.1 k e hQ.2.1.1
            by_cases hcan : can T (dgf e.1) i j
            · have hE : pE T sv e.1 (enc (aft T (dgf e.1) i j)) (hnd T i j) := Or.inl ⟨i, j, hcan, rfl, rfl⟩
              have hh6 := hnd_le hia hja t1
              obtain ⟨u1, u2, u3, u4, u5, u6, u7, u8⟩ := QI_e hX hQ (by omega) hE (by omega)
              have hlo2 : lo8 (aft T (dgf e.1) i j) := aft_lo (dgf_lo _)
              have hce : cdF (dgf (enc (aft T (dgf e.1) i j))) (tn T) = cdF (aft T (dgf e.1) i j) (tn T) := cd_enc t1 hlo2
              have hlie2 : lieN (tn T) (aft T (dgf e.1) i j) := fun g hg => by have := u4 g hg; rw [dgf_enc hlo2 (by omega)] at this; exact this
              have hcast : (e.2.1 : Int) + (hnd T i j : Int) = ((e.2.1 + hnd T i j : Nat) : Int) := by omega
              refine G_il2 hC dX10_findPrices_26 ?_
              refine G_al0 hC dX10_findPrices_27 ?_
              refine G_getI hC fl_X10_116 (by first | assumption | rfl) (by omega) dX10_findPrices_28 ?_
              rw [z0]
              refine G_al0 hC dX10_findPrices_31 ?_
              refine G_getI hC fl_X10_116 (by first | assumption | rfl) (by omega) dX10_findPrices_32 ?_
              rw [z0]
              refine G_imul hC dX10_findPrices_35 ?_
              rw [hnz]
              refine G_icmp_ge (tgt := 166) hC dX10_findPrices_36 (by decide) (by omega) (by omega) (fun c36 => ?_) (fun c36 => ?_)
              · exact absurd c36 (by omega)
              · refine G_il2 hC dX10_findPrices_39 ?_
                refine G_al0 hC dX10_findPrices_40 ?_
                refine G_getI hC fl_X10_116 (by first | assumption | rfl) (by omega) dX10_findPrices_41 ?_
                rw [z0]
                refine G_idiv hC dX10_findPrices_44 (by omega) (by omega) ?_
                rw [hdi]
                refine G_is3 hC dX10_findPrices_45 rfl ?_
                refine G_il2 hC dX10_findPrices_46 ?_
                refine G_al0 hC dX10_findPrices_47 ?_
                refine G_getI hC fl_X10_116 (by first | assumption | rfl) (by omega) dX10_findPrices_48 ?_
                rw [z0]
                refine G_irem hC dX10_findPrices_51 (by omega) (by omega) ?_
                rw [hmo]
                refine G_is4 hC dX10_findPrices_52 rfl ?_
                refine G_al0 hC dX10_findPrices_54 ?_
                refine G_al0 hC dX10_findPrices_55 ?_
                refine G_getR hC fl_X10_77 (by first | assumption | rfl) (by omega) (by first | assumption | exact hGr _ _ rfl) dX10_findPrices_56 ?_
                refine G_il1 hC dX10_findPrices_59 ?_
                refine G_ialoadN (n := k) hC (by first | assumption | rfl) (by omega) (by omega) (by omega) dX10_findPrices_60 ?_
                rw [f1]
                refine G_callVV hC (c_X10_loads hGr z0 t1 (by rw [el3]; exact hML2.1.2.2) el1 el2) mv_X10_263 (by first | assumption | rfl) (by omega) (by decide) rfl (by decide) dX10_findPrices_61 rfl (Nat.le_of_ble_eq_true rfl) rfl (fun M61 P61 h61 => ?_)
                obtain ⟨rfl, p1, p2⟩ := h61
                have hK4 := hK2.trans (cKp_l (lK_63 p2))
                have hML4 := MLi_63 hML2 p2
                have hD4 := DNR_x hD2 (fun b => p2 72 (by unfold s63; omega) b)
                have hk4 := SkR_c hk hK4
                refine G_al0 hC dX10_findPrices_64 ?_
                refine G_il3 hC dX10_findPrices_65 ?_
                refine G_il4 hC dX10_findPrices_66 ?_
                refine G_callVI hC (c_X10_mayAsk (i := i) (j := j) hGr hk4 p1 el1 hia hja) mv_X10_223 (by first | assumption | rfl) (by omega) (by decide) rfl (by decide) dX10_findPrices_68 rfl (Nat.le_of_ble_eq_true rfl) rfl (fun z68 M68 P68 h68 => ?_)
                obtain ⟨rfl, rfl, rfl⟩ := h68
                rw [canI_1 hcan]
                refine G_if_eq (tgt := 99) hC dX10_findPrices_71 (by decide) (by omega) (fun c71 => ?_) (fun c71 => ?_)
                · exact absurd c71 (by omega)
                · refine G_al0 hC dX10_findPrices_74 ?_
                  refine G_il3 hC dX10_findPrices_75 ?_
                  refine G_il4 hC dX10_findPrices_76 ?_
                  refine G_callVV hC (c_X10_asks (i := i) (j := j) hGr hk4 p1 el1 hia hja hcan.1) mv_X10_230 (by first | assumption | rfl) (by omega) (by decide) rfl (by decide) dX10_findPrices_78 rfl (Nat.le_of_ble_eq_true rfl) rfl (fun M78 P78 h78 => ?_)
                  obtain ⟨rfl, a1, a2⟩ := h78
                  have hK5 := hK4.trans (cKp_l (lK_63 a2))
                  have hML5 := MLi_63 hML4 a2
                  have hD5 := DNR_x hD4 (fun b => a2 72 (by unfold s63; omega) b)
                  have hk5 := SkR_c hk hK5
                  have w0 := hk5.1.1
                  have w2 := hk5.1.2
                  have w69 : M78 69 k = (e.2.1 : Int) := (hML5.2.2.1 k e hQ.2.1.1).2.1
                  refine G_al0 hC dX10_findPrices_81 ?_
                  refine G_al0 hC dX10_findPrices_82 ?_
                  refine G_getR hC fl_X10_80 (by first | assumption | rfl) (by omega) (by first | assumption | exact hGr _ _ rfl) dX10_findPrices_83 ?_
                  refine G_il1 hC dX10_findPrices_86 ?_
                  refine G_ialoadN (n := k) hC (by first | assumption | rfl) (by omega) (by omega) (by omega) dX10_findPrices_87 ?_
                  rw [w69]
                  refine G_al0 hC dX10_findPrices_88 ?_
                  refine G_il3 hC dX10_findPrices_89 ?_
                  refine G_il4 hC dX10_findPrices_90 ?_
                  refine G_callVI hC (c_X10_handsOf (i := i) (j := j) hGr w0 w2 o2 o6 or1 hia hja) mv_X10_206 (by first | assumption | rfl) (by omega) (by decide) rfl (by decide) dX10_findPrices_92 rfl (Nat.le_of_ble_eq_true rfl) rfl (fun z92 M92 P92 h92 => ?_)
                  obtain ⟨rfl, rfl, rfl⟩ := h92
                  refine G_iadd hC dX10_findPrices_95 ?_
                  rw [hcast]
                  refine G_callVV hC (c_X10_costs (q := enc (aft T (dgf e.1) i j)) hGr w0 t1 hML5 hD5 a1 hlie2 hce.symm u3 u8 u7 u5 u6) mv_X10_287 (by first | assumption | rfl) (by omega) (by decide) rfl (by decide) dX10_findPrices_96 rfl (Nat.le_of_ble_eq_true rfl) rfl (fun M96 P96 h96 => ?_)
                  obtain ⟨rfl, L3, dn3, r1, r2, r3, r4⟩ := h96
                  have hQ3 := QI_pc hQ ⟨by omega, by omega⟩ u1 u2 r3
                  exact h99 L3 dn3 _ hQ3 (clA_m hA r3) (fun _ => pc_in r3) r1 r2 (hK5.trans r4)
            · skip
              refine G_il2 hC dX10_findPrices_26 ?_
              refine G_al0 hC dX10_findPrices_27 ?_
              refine G_getI hC fl_X10_116 (by first | assumption | rfl) (by omega) dX10_findPrices_28 ?_
              rw [z0]
              refine G_al0 hC dX10_findPrices_31 ?_
              refine G_getI hC fl_X10_116 (by first | assumption | rfl) (by omega) dX10_findPrices_32 ?_
              rw [z0]
              refine G_imul hC dX10_findPrices_35 ?_
              rw [hnz]
              refine G_icmp_ge (tgt := 166) hC dX10_findPrices_36 (by decide) (by omega) (by omega) (fun c36 => ?_) (fun c36 => ?_)
              · exact absurd c36 (by omega)
              · refine G_il2 hC dX10_findPrices_39 ?_
                refine G_al0 hC dX10_findPrices_40 ?_
                refine G_getI hC fl_X10_116 (by first | assumption | rfl) (by omega) dX10_findPrices_41 ?_
                rw [z0]
                refine G_idiv hC dX10_findPrices_44 (by omega) (by omega) ?_
                rw [hdi]
                refine G_is3 hC dX10_findPrices_45 rfl ?_
                refine G_il2 hC dX10_findPrices_46 ?_
                refine G_al0 hC dX10_findPrices_47 ?_
                refine G_getI hC fl_X10_116 (by first | assumption | rfl) (by omega) dX10_findPrices_48 ?_
                rw [z0]
                refine G_irem hC dX10_findPrices_51 (by omega) (by omega) ?_
                rw [hmo]
                refine G_is4 hC dX10_findPrices_52 rfl ?_
                refine G_al0 hC dX10_findPrices_54 ?_
                refine G_al0 hC dX10_findPrices_55 ?_
                refine G_getR hC fl_X10_77 (by first | assumption | rfl) (by omega) (by first | assumption | exact hGr _ _ rfl) dX10_findPrices_56 ?_
                refine G_il1 hC dX10_findPrices_59 ?_
                refine G_ialoadN (n := k) hC (by first | assumption | rfl) (by omega) (by omega) (by omega) dX10_findPrices_60 ?_
                rw [f1]
                refine G_callVV hC (c_X10_loads hGr z0 t1 (by rw [el3]; exact hML2.1.2.2) el1 el2) mv_X10_263 (by first | assumption | rfl) (by omega) (by decide) rfl (by decide) dX10_findPrices_61 rfl (Nat.le_of_ble_eq_true rfl) rfl (fun M61 P61 h61 => ?_)
                obtain ⟨rfl, p1, p2⟩ := h61
                have hK4 := hK2.trans (cKp_l (lK_63 p2))
                have hML4 := MLi_63 hML2 p2
                have hD4 := DNR_x hD2 (fun b => p2 72 (by unfold s63; omega) b)
                have hk4 := SkR_c hk hK4
                refine G_al0 hC dX10_findPrices_64 ?_
                refine G_il3 hC dX10_findPrices_65 ?_
                refine G_il4 hC dX10_findPrices_66 ?_
                refine G_callVI hC (c_X10_mayAsk (i := i) (j := j) hGr hk4 p1 el1 hia hja) mv_X10_223 (by first | assumption | rfl) (by omega) (by decide) rfl (by decide) dX10_findPrices_68 rfl (Nat.le_of_ble_eq_true rfl) rfl (fun z68 M68 P68 h68 => ?_)
                obtain ⟨rfl, rfl, rfl⟩ := h68
                rw [canI_0 hcan]
                refine G_if_eq (tgt := 99) hC dX10_findPrices_71 (by decide) (by omega) (fun c71 => ?_) (fun c71 => ?_)
                · exact h99 L1 dn1 _ hQ hA (fun z => absurd z hcan) hML4 hD4 hK4
                · exact absurd rfl c71
        refine G_il1 hC dX10_findPrices_13 ?_
        refine G_if_lt (tgt := 174) hC dX10_findPrices_14 (by decide) (by omega) (fun c14 => ?_) (fun c14 => ?_)
        · exact absurd c14 (by omega)
        · refine G_al0 hC dX10_findPrices_17 ?_
          refine G_getR hC fl_X10_90 (by first | assumption | rfl) (by omega) (by first | assumption | exact hGr _ _ rfl) dX10_findPrices_18 ?_
          refine G_il1 hC dX10_findPrices_21 ?_
          refine G_iconst hC dX10_findPrices_22 ?_
          refine G_zastoreN (n := k) hC (by first | assumption | rfl) (by omega) (by omega) (by omega) (by omega) dX10_findPrices_23 ?_
          refine G_iconst hC dX10_findPrices_24 ?_
          refine G_is2 hC dX10_findPrices_25 rfl ?_
          exact hlpA nn 0 _ L (ud dn k 1) _ _ _ _ (by omega) rfl hQ0 (fun i j _ _ z => absurd z (Nat.not_lt_zero _)) hMLu hDNu (hKl.trans cKp_72)
  refine G_al0 hC dX10_findPrices_0 ?_
  refine G_callVV hC (c_X10_beginsList (f0 := f0) hGr k0 t1 hS hf hi hlo hth hm h37 hst9) mv_X10_260 (by first | assumption | rfl) (by omega) (by decide) rfl (by decide) dX10_findPrices_1 rfl (Nat.le_of_ble_eq_true rfl) rfl (fun M1 P1 h1 => ?_)
  obtain ⟨rfl, v1, v2⟩ := h1
  refine G_al0 hC dX10_findPrices_4 ?_
  refine G_getR hC fl_X10_90 (by first | assumption | rfl) (by omega) (by first | assumption | exact hGr _ _ rfl) dX10_findPrices_5 ?_
  refine G_iconst hC dX10_findPrices_8 ?_
  refine G_iconst hC dX10_findPrices_9 ?_
  refine G_zastoreN (n := 0) hC (by first | assumption | rfl) (by omega) (by omega) (by omega) (by omega) dX10_findPrices_10 ?_
  refine G_iconst hC dX10_findPrices_11 ?_
  refine G_is1 hC dX10_findPrices_12 rfl ?_
  have hR0 : RIp T N lq (lq l0) sv [(lq l0, 0, 0)] (fun _ => 0) 0 := RI_0 hl0 Nat.zero_ne_one
  rw [hq] at hR0
  exact hlpK 721 0 _ _ _ _ _ _ _ _ (by omega) hR0 (MLi_x v1 (fun b hb => upM_ne (by omega) b) (fun a h1 h2 b => upM_ne (by omega) b)) (fun j hj => by
      have hj0 : j = 0 := by have : j < 1 := hj; omega
      rw [hj0, upM_self]; exact ⟨rfl, by omega⟩) ((cKp_l v2).trans cKp_72) (Or.inr ⟨0, (enc f, 0, 0), rfl, Nat.zero_lt_one, rfl, Nat.zero_ne_one, fun k' e' hk' hx _ => Nat.zero_le _⟩)
set_option maxHeartbeats 4000000 in
set_option maxRecDepth 100000 in
theorem c_X10_price {l : Launch} {c : Nat} {S : AS} {N : Nat} {lq : Nat → Nat} {i d : Int} {M : Mem} {P : PMem} (hS : SOK c S) (hK : TOK S) (hI : MIv c M P S) (hLk : lkR S N lq) (hc5 : c ≤ 520) (hi : i32r i) (hd0 : i32r d)  : CtI l yX10_price cX10_price 3 (some .int) 4 102 77 [vR 45, vI i, vI d] M P (mQ (c + 1) M P S (prT S i d)) := by
  refine Ct_of (own := RX10) (L := [vR 45, vI i, vI d]) (by decide) rfl rfl (Nat.le_of_ble_eq_true rfl) (fun X Y hl hC hQ => ?_)
  obtain ⟨hGr, ⟨⟨g0, g1, g2, g3, g4⟩, g5⟩, ⟨g6, g7⟩, g8, g9, ⟨g10, g11⟩, g12⟩ := id hI
  obtain ⟨s1, ⟨s2, s3, s4, s5, s6, s7, s8⟩, ⟨s9, s10, s11, s12⟩, s13, s14, s15, s16, s17, s18⟩ := id hS
  obtain ⟨m1, m2, m3, m4⟩ := id s14
  have hX := lk_KX hS hLk (T' := sT S) rfl
  have hlo := m1.lo
  obtain ⟨l0, hl0, hq⟩ := lk_at (c := c) hLk hlo m2
  obtain ⟨st, hst⟩ : ∃ st : Nat, M 45 37 = (st : Int) := ⟨(M 45 37).toNat, by have := g12.1; omega⟩
  have hstc : st ≤ 16 * c := by have := g12.2.1; omega
  unfold i32r at *
  by_cases hg : isG S i
  · by_cases hd : isD S d
    · obtain ⟨g, rfl⟩ : ∃ g : Nat, i = (g : Int) := ⟨i.toNat, by have := hg.1; omega⟩
      obtain ⟨e, rfl⟩ : ∃ e : Nat, d = (e : Int) := ⟨d.toNat, by have := hd.1; omega⟩
      have hg2 := hg.2
      have hd2 := hd.2
      refine G_al0 hC dX10_price_0 ?_
      refine G_il1 hC dX10_price_1 ?_
      refine G_callVI hC (c_X10_isGuest1 hS hI (by unfold i32r; omega) hg) mv_X10_192 (by first | assumption | rfl) (by omega) (by decide) rfl (by decide) dX10_price_2 rfl (Nat.le_of_ble_eq_true rfl) rfl (fun z2 M2 P2 h2 => ?_)
      obtain ⟨rfl, rfl, rfl⟩ := h2
      refine G_if_eq (tgt := 16) hC dX10_price_5 (by decide) (by omega) (fun c5 => ?_) (fun c5 => ?_)
      · exact absurd c5 (by omega)
      · refine G_al0 hC dX10_price_8 ?_
        refine G_il2 hC dX10_price_9 ?_
        refine G_callVI hC (c_X10_isDish1 hS hI (by unfold i32r; omega) hd) mv_X10_195 (by first | assumption | rfl) (by omega) (by decide) rfl (by decide) dX10_price_10 rfl (Nat.le_of_ble_eq_true rfl) rfl (fun z10 M10 P10 h10 => ?_)
        obtain ⟨rfl, rfl, rfl⟩ := h10
        refine G_if_ne (tgt := 18) hC dX10_price_13 (by decide) (by omega) (fun c13 => ?_) (fun c13 => ?_)
        · refine G_al0 hC dX10_price_18 ?_
          refine G_callVV hC (c_X10_sits hGr g0 s7) mv_X10_220 (by first | assumption | rfl) (by omega) (by decide) rfl (by decide) dX10_price_19 rfl (Nat.le_of_ble_eq_true rfl) rfl (fun M19 P19 h19 => ?_)
          obtain ⟨rfl, v0⟩ := h19
          obtain ⟨v1, v2⟩ := si_R hS hK hI v0
          obtain ⟨v3, v4⟩ := siI_M hI v0
          have v37 : M19 45 37 = (st : Int) := by rw [v0.2.2 45 (by omega)]; exact hst
          refine G_al0 hC dX10_price_22 ?_
          refine G_callVV hC (c_X10_findPrices (sv := sSv S) hGr v1 hX v2 hlo hl0 hq v3.2.2.2.2.2.2 v37 (by omega) v3.2.1.1.2.2.2.1 s4) mv_X10_293 (by first | assumption | rfl) (by omega) (by decide) rfl (by decide) dX10_price_23 rfl (Nat.le_of_ble_eq_true rfl) rfl (fun M23 P23 h23 => ?_)
          obtain ⟨rfl, L, fa1, hFm, hFf, hFs, hFh, hFc, fa2⟩ := h23
          have w1 : MIv (c + 1) M23 P S := MIv_x v3 (fun a h1 h2 b => fa2.1 a (by omega) (by omega) (by omega) (by omega) b) (fun b hb => fa2.2 b (by omega) (by omega) (by omega)) (qMk_l fa1 (by omega))
          have hex : eqx mdX M M23 := v4.trans (fun a ha b => fa2.1 a (fun q => ha (by unfold mdX; omega)) (fun q => ha (by unfold mdX; omega)) (fun q => ha (by unfold mdX; omega)) (fun q => ha (by unfold mdX; omega)) b)
          have hpr := fp_pr (g := g) (d := e) hFs hFh hFc
          refine G_al0 hC dX10_price_26 ?_
          refine G_il1 hC dX10_price_27 ?_
          refine G_il2 hC dX10_price_28 ?_
          refine G_callVI hC (c_X10_needOf (i := g) (d := e) hGr hX fa1 hFm hFf (by omega) (by omega)) mv_X10_275 (by first | assumption | rfl) (by omega) (by decide) rfl (by decide) dX10_price_29 rfl (Nat.le_of_ble_eq_true rfl) rfl (fun z29 M29 P29 h29 => ?_)
          obtain ⟨rfl, rfl, rfl⟩ := h29
          exact G_iret hC hQ dX10_price_32 ⟨_, rfl, rfl, ⟨fun _ => hpr, fun z => absurd ⟨hg, hd⟩ z⟩, w1, hex⟩
        · exact absurd c13 (by omega)
    · refine G_al0 hC dX10_price_0 ?_
      refine G_il1 hC dX10_price_1 ?_
      refine G_callVI hC (c_X10_isGuest1 hS hI (by unfold i32r; omega) hg) mv_X10_192 (by first | assumption | rfl) (by omega) (by decide) rfl (by decide) dX10_price_2 rfl (Nat.le_of_ble_eq_true rfl) rfl (fun z2 M2 P2 h2 => ?_)
      obtain ⟨rfl, rfl, rfl⟩ := h2
      refine G_if_eq (tgt := 16) hC dX10_price_5 (by decide) (by omega) (fun c5 => ?_) (fun c5 => ?_)
      · exact absurd c5 (by omega)
      · refine G_al0 hC dX10_price_8 ?_
        refine G_il2 hC dX10_price_9 ?_
        refine G_callVI hC (c_X10_isDish0 hS hI (by unfold i32r; omega) hd) mv_X10_195 (by first | assumption | rfl) (by omega) (by decide) rfl (by decide) dX10_price_10 rfl (Nat.le_of_ble_eq_true rfl) rfl (fun z10 M10 P10 h10 => ?_)
        obtain ⟨rfl, rfl, rfl⟩ := h10
        refine G_if_ne (tgt := 18) hC dX10_price_13 (by decide) (by omega) (fun c13 => ?_) (fun c13 => ?_)
        · exact absurd rfl c13
        · refine G_iconst hC dX10_price_16 ?_
          exact G_iret hC hQ dX10_price_17 ⟨_, rfl, rfl, ⟨fun z => absurd z (fun z => hd z.2), fun _ => rfl⟩, hI.mono (by omega), eqx.refl⟩
  · refine G_al0 hC dX10_price_0 ?_
    refine G_il1 hC dX10_price_1 ?_
    refine G_callVI hC (c_X10_isGuest0 hS hI (by unfold i32r; omega) hg) mv_X10_192 (by first | assumption | rfl) (by omega) (by decide) rfl (by decide) dX10_price_2 rfl (Nat.le_of_ble_eq_true rfl) rfl (fun z2 M2 P2 h2 => ?_)
    obtain ⟨rfl, rfl, rfl⟩ := h2
    refine G_if_eq (tgt := 16) hC dX10_price_5 (by decide) (by omega) (fun c5 => ?_) (fun c5 => ?_)
    · refine G_iconst hC dX10_price_16 ?_
      exact G_iret hC hQ dX10_price_17 ⟨_, rfl, rfl, ⟨fun z => absurd z (fun z => hg z.1), fun _ => rfl⟩, hI.mono (by omega), eqx.refl⟩
    · exact absurd rfl c5
