/-! the reference's lists -/
theorem p6_le {d : Nat} (h : d ≤ 6) : 1 ≤ 6 ^ d ∧ 6 ^ d ≤ 46656 := by
  refine ⟨Nat.pow_pos (by omega), ?_⟩
  have : 6 ^ d ≤ 6 ^ 6 := Nat.pow_le_pow_right (by omega) h
  omega
set_option maxHeartbeats 4000000 in
set_option maxRecDepth 100000 in
theorem c_power {l : Launch} {d : Nat} {M : Mem} {P : PMem} (hd : d ≤ 6) : CtI l yX10_power cX10_power 3 (some .int) 0 0 0 [vI d] M P (pI ((6 ^ d : Nat) : Int) M P) := by
  refine Ct_of (own := RX10) (L := [vI d, vX 1, vX 1]) (by decide) rfl rfl (Nat.le_of_ble_eq_true rfl) (fun X Y hl hC hQ => ?_)
  have hlp : ∀ (c k : Nat) (kv v : Int), k + c = d → kv = (k : Int) → v = ((6 ^ k : Nat) : Int) → G X Y 4 [vI d, vI v, vI kv] [] M P := by
    intro c
    induction c with
    | zero =>
      intro k kv v hk e1 e2
      subst e1; subst e2
      have : k = d := by omega
      subst this
      refine G_il2 hC dX10_power_4 ?_
      refine G_il0 hC dX10_power_5 ?_
      refine G_icmp_ge (tgt := 20) hC dX10_power_6 (by decide) (by omega) (by omega) (fun c6 => ?_) (fun c6 => ?_)
      · refine G_il1 hC dX10_power_20 ?_
        exact G_iret hC hQ dX10_power_21 ⟨_, rfl, rfl, rfl, rfl⟩
      · exact absurd c6 (by omega)
    | succ c ih =>
      intro k kv v hk e1 e2
      subst e1; subst e2
      refine G_il2 hC dX10_power_4 ?_
      refine G_il0 hC dX10_power_5 ?_
      refine G_icmp_ge (tgt := 20) hC dX10_power_6 (by decide) (by omega) (by omega) (fun c6 => ?_) (fun c6 => ?_)
      · exact absurd c6 (by omega)
      · refine G_il1 hC dX10_power_9 ?_
        refine G_bipush hC dX10_power_10 (by decide) ?_
        refine G_imul hC dX10_power_12 ?_
        refine G_is1 hC dX10_power_13 rfl ?_
        refine G_inc2 hC dX10_power_14 rfl ?_
        refine G_goto (tgt := 4) hC dX10_power_17 (by decide) ?_
        exact ih (k + 1) _ _ (by omega) (by omega) (by rw [Nat.pow_succ]; omega)
  refine G_iconst hC dX10_power_0 ?_
  refine G_is1 hC dX10_power_1 rfl ?_
  refine G_iconst hC dX10_power_2 ?_
  refine G_is2 hC dX10_power_3 rfl ?_
  exact hlp d 0 _ _ (by omega) rfl rfl
theorem cd_le {f : Nat → Nat} : ∀ k, k ≤ 6 → lieN k f → cdF f k ≤ 38880 * k
  | 0, _, _ => by unfold cdF; omega
  | k + 1, hk, h => by
    have ih := cd_le (f := f) k (by omega) (fun g hg => h g (by omega))
    unfold cdF
    split
    · omega
    · have h5 : 6 ^ f k ≤ 6 ^ 5 := Nat.pow_le_pow_right (by omega) (by rcases h k (by omega) with q | q <;> omega)
      have : k * 6 ^ f k ≤ 5 * 6 ^ 5 := Nat.mul_le_mul (by omega) h5
      omega
set_option maxHeartbeats 4000000 in
set_option maxRecDepth 100000 in
theorem c_X10_codeNow {l : Launch} {n : Nat} {f : Nat → Nat} {M : Mem} {P : PMem} (hGr : GrM P) (g0 : M 45 0 = (n : Int)) (hn6 : n ≤ 6) (hS : SpR M n f) (hf : lieN n f) : CtI l yX10_codeNow cX10_codeNow 3 (some .int) 1 22 77 [vR 45] M P (pI (cdF f n) M P) := by
  refine Ct_of (own := RX10) (L := [vR 45, vX 1, vX 1]) (by decide) rfl rfl (Nat.le_of_ble_eq_true rfl) (fun X Y hl hC hQ => ?_)
  have hlp : ∀ (c k : Nat) (kv v : Int), k + c = n → kv = (k : Int) → v = (cdF f k : Int) → G X Y 4 [vR 45, vI v, vI kv] [] M P := by
    intro c
    induction c with
    | zero =>
      intro k kv v hk e1 e2
      subst e1; subst e2
      have : k = n := by omega
      subst this
      refine G_il2 hC dX10_codeNow_4 ?_
      refine G_al0 hC dX10_codeNow_5 ?_
      refine G_getI hC fl_X10_116 (by first | assumption | rfl) (by omega) dX10_codeNow_6 ?_
      rw [g0]
      refine G_icmp_ge (tgt := 46) hC dX10_codeNow_9 (by decide) (by omega) (by omega) (fun c9 => ?_) (fun c9 => ?_)
      · refine G_il1 hC dX10_codeNow_46 ?_
        exact G_iret hC hQ dX10_codeNow_47 ⟨_, rfl, rfl, rfl, rfl⟩
      · exact absurd c9 (by omega)
    | succ c ih =>
      intro k kv v hk e1 e2
      subst e1; subst e2
      have hv := hS k (by omega)
      have hl := hf k (by omega)
      have hb := cd_le (f := f) k (by omega) (fun g hg => hf g (by omega))
      by_cases h7 : f k = 7
      · have hv1 : nv (f k) = -1 := by unfold nv; rw [if_pos h7]
        refine G_il2 hC dX10_codeNow_4 ?_
        refine G_al0 hC dX10_codeNow_5 ?_
        refine G_getI hC fl_X10_116 (by first | assumption | rfl) (by omega) dX10_codeNow_6 ?_
        rw [g0]
        refine G_icmp_ge (tgt := 46) hC dX10_codeNow_9 (by decide) (by omega) (by omega) (fun c9 => ?_) (fun c9 => ?_)
        · exact absurd c9 (by omega)
        · refine G_il1 hC dX10_codeNow_12 ?_
          refine G_al0 hC dX10_codeNow_13 ?_
          refine G_getR hC fl_X10_61 (by first | assumption | rfl) (by omega) (by first | assumption | exact hGr _ _ rfl) dX10_codeNow_14 ?_
          refine G_il2 hC dX10_codeNow_17 ?_
          refine G_ialoadN (n := k) hC (by first | assumption | rfl) (by omega) (by omega) (by omega) dX10_codeNow_18 ?_
          rw [hv, hv1]
          refine G_iconst hC dX10_codeNow_19 ?_
          refine G_icmp_ne (tgt := 27) hC dX10_codeNow_20 (by decide) (by omega) (by omega) (fun c20 => ?_) (fun c20 => ?_)
          · exact absurd rfl c20
          · refine G_iconst hC dX10_codeNow_23 ?_
            refine G_goto (tgt := 38) hC dX10_codeNow_24 (by decide) ?_
            refine G_iadd hC dX10_codeNow_38 ?_
            refine G_is1 hC dX10_codeNow_39 rfl ?_
            refine G_inc2 hC dX10_codeNow_40 rfl ?_
            refine G_goto (tgt := 4) hC dX10_codeNow_43 (by decide) ?_
            exact ih (k + 1) _ _ (by omega) (by omega) (by show _ = ((cdF f k + (if f k = 7 then 0 else k * 6 ^ f k) : Nat) : Int); rw [if_pos h7]; omega)
      · have hv1 : nv (f k) = (f k : Int) := by unfold nv; rw [if_neg h7]
        refine G_il2 hC dX10_codeNow_4 ?_
        refine G_al0 hC dX10_codeNow_5 ?_
        refine G_getI hC fl_X10_116 (by first | assumption | rfl) (by omega) dX10_codeNow_6 ?_
        rw [g0]
        refine G_icmp_ge (tgt := 46) hC dX10_codeNow_9 (by decide) (by omega) (by omega) (fun c9 => ?_) (fun c9 => ?_)
        · exact absurd c9 (by omega)
        · refine G_il1 hC dX10_codeNow_12 ?_
          refine G_al0 hC dX10_codeNow_13 ?_
          refine G_getR hC fl_X10_61 (by first | assumption | rfl) (by omega) (by first | assumption | exact hGr _ _ rfl) dX10_codeNow_14 ?_
          refine G_il2 hC dX10_codeNow_17 ?_
          refine G_ialoadN (n := k) hC (by first | assumption | rfl) (by omega) (by omega) (by omega) dX10_codeNow_18 ?_
          rw [hv, hv1]
          refine G_iconst hC dX10_codeNow_19 ?_
          refine G_icmp_ne (tgt := 27) hC dX10_codeNow_20 (by decide) (by omega) (by omega) (fun c20 => ?_) (fun c20 => ?_)
          · refine G_il2 hC dX10_codeNow_27 ?_
            refine G_al0 hC dX10_codeNow_28 ?_
            refine G_getR hC fl_X10_61 (by first | assumption | rfl) (by omega) (by first | assumption | exact hGr _ _ rfl) dX10_codeNow_29 ?_
            refine G_il2 hC dX10_codeNow_32 ?_
            refine G_ialoadN (n := k) hC (by first | assumption | rfl) (by omega) (by omega) (by omega) dX10_codeNow_33 ?_
            rw [hv, hv1]
            refine G_callSI hC (c_power (d := f k) (by omega)) ms_X10_237 (by decide) rfl (by decide) dX10_codeNow_34 rfl (Nat.le_of_ble_eq_true rfl) rfl (fun z34 M34 P34 h34 => ?_)
            obtain ⟨rfl, rfl, rfl⟩ := h34
            refine G_imul hC dX10_codeNow_37 ?_
            refine G_iadd hC dX10_codeNow_38 ?_
            refine G_is1 hC dX10_codeNow_39 rfl ?_
            refine G_inc2 hC dX10_codeNow_40 rfl ?_
            refine G_goto (tgt := 4) hC dX10_codeNow_43 (by decide) ?_
            exact ih (k + 1) _ _ (by omega) (by omega) (by show _ = ((cdF f k + (if f k = 7 then 0 else k * 6 ^ f k) : Nat) : Int); rw [if_neg h7]; simp)
          · exact absurd c20 (by omega)
  refine G_iconst hC dX10_codeNow_0 ?_
  refine G_is1 hC dX10_codeNow_1 rfl ?_
  refine G_iconst hC dX10_codeNow_2 ?_
  refine G_is2 hC dX10_codeNow_3 rfl ?_
  exact hlp n 0 _ _ (by omega) rfl rfl
theorem bit_t {th d : Nat} (ht : th < 64) (hd : d < 6) : bAnd (bShr th d) 1 = if th.testBit d = true then 1 else 0 := by
  have hq : th / 2 ^ d ≤ th := Nat.div_le_self _ _
  rw [bShr_n (by omega) (by omega), show (1 : Int) = ((1 : Nat) : Int) by rfl, bAnd_n (by omega) (by omega), Nat.and_one_is_mod]
  rw [Nat.testBit_eq_decide_div_mod_eq]
  have := Nat.mod_lt (th / 2 ^ d) (show 0 < 2 by omega)
  by_cases z : th / 2 ^ d % 2 = 1
  · rw [if_pos (by simp [z]), z]
  · rw [if_neg (by simp [z]), show th / 2 ^ d % 2 = 0 by omega]; rfl
set_option maxHeartbeats 4000000 in
set_option maxRecDepth 100000 in
theorem c_X10_seatIn {l : Launch} {n d : Nat} {f : Nat → Nat} {M : Mem} {P : PMem} (hGr : GrM P) (hth0 : M 45 42 = (thF f n : Int)) (hn6 : n ≤ 6) (hf : lieN n f) (hi : injN n f) (hd : d < 6) : CtI l yX10_seatIn cX10_seatIn 3 (some .int) 1 22 77 [vR 45, vI (cdF f n), vI d] M P (pI (seN f d n) M P) := by
  refine Ct_of (own := RX10) (L := [vR 45, vI (cdF f n), vI d]) (by decide) rfl rfl (Nat.le_of_ble_eq_true rfl) (fun X Y hl hC hQ => ?_)
  have hth := th_lt (f := f) n hf
  have hbt := bit_t hth hd
  have htb := th_tb (f := f) hd n
  have hp := p6_le (d := d) (by omega)
  have hcl := cd_lt hn6 hf hi
  by_cases hx : ∃ g, g < n ∧ f g = d
  · rw [if_pos (htb.mpr hx)] at hbt
    obtain ⟨g, hg, he⟩ := hx
    have hu : ∀ i, i < n → f i = d → i = g := fun i hi' ei => hi i g hi' hg (by omega) (by omega)
    have hse := se_at n hg he hu
    have hdg := cd_dig hn6 hf hi hd
    rw [sd_at n hg he hu] at hdg
    have hdz : (cdF f n : Int) / ((6 ^ d : Nat) : Int) = ((cdF f n / 6 ^ d : Nat) : Int) := rfl
    have hdl : cdF f n / 6 ^ d ≤ cdF f n := Nat.div_le_self _ _
    generalize cdF f n / 6 ^ d = zq at hdz hdl hdg
    refine G_al0 hC dX10_seatIn_0 ?_
    refine G_getI hC fl_X10_241 (by first | assumption | rfl) (by omega) dX10_seatIn_1 ?_
    rw [hth0]
    refine G_il2 hC dX10_seatIn_4 ?_
    refine G_ishr hC dX10_seatIn_5 ?_
    refine G_iconst hC dX10_seatIn_6 ?_
    refine G_iand hC dX10_seatIn_7 ?_
    rw [hbt]
    refine G_if_ne (tgt := 15) hC dX10_seatIn_8 (by decide) (by omega) (fun c8 => ?_) (fun c8 => ?_)
    · refine G_il1 hC dX10_seatIn_15 ?_
      refine G_il2 hC dX10_seatIn_16 ?_
      refine G_callSI hC (c_power (d := d) (by omega)) ms_X10_237 (by decide) rfl (by decide) dX10_seatIn_17 rfl (Nat.le_of_ble_eq_true rfl) rfl (fun z17 M17 P17 h17 => ?_)
      obtain ⟨rfl, rfl, rfl⟩ := h17
      refine G_idiv hC dX10_seatIn_20 (by omega) (by omega) ?_
      rw [hdz]
      refine G_bipush hC dX10_seatIn_21 (by decide) ?_
      refine G_irem hC dX10_seatIn_23 (by omega) (by omega) ?_
      exact G_iret hC hQ dX10_seatIn_24 ⟨_, rfl, by rw [hse]; omega, rfl, rfl⟩
    · exact absurd c8 (by omega)
  · rw [if_neg (fun z => hx (htb.mp z))] at hbt
    have hse := se_no n (fun g hg e => hx ⟨g, hg, e⟩)
    refine G_al0 hC dX10_seatIn_0 ?_
    refine G_getI hC fl_X10_241 (by first | assumption | rfl) (by omega) dX10_seatIn_1 ?_
    rw [hth0]
    refine G_il2 hC dX10_seatIn_4 ?_
    refine G_ishr hC dX10_seatIn_5 ?_
    refine G_iconst hC dX10_seatIn_6 ?_
    refine G_iand hC dX10_seatIn_7 ?_
    rw [hbt]
    refine G_if_ne (tgt := 15) hC dX10_seatIn_8 (by decide) (by omega) (fun c8 => ?_) (fun c8 => ?_)
    · exact absurd rfl c8
    · refine G_iconst hC dX10_seatIn_11 ?_
      refine G_goto (tgt := 24) hC dX10_seatIn_12 (by decide) ?_
      exact G_iret hC hQ dX10_seatIn_24 ⟨_, rfl, by rw [hse], rfl, rfl⟩
def ldI (M M1 : Mem) (f : Nat → Nat) (n d : Nat) : Prop := (∀ g, g < n → M1 63 g = if f g < d then (f g : Int) else -1) ∧ eqx s63 M M1
set_option maxHeartbeats 4000000 in
set_option maxRecDepth 100000 in
theorem c_X10_loads {l : Launch} {n : Nat} {f : Nat → Nat} {M : Mem} {P : PMem} (hGr : GrM P) (g0 : M 45 0 = (n : Int)) (hn6 : n ≤ 6) (hth0 : M 45 42 = (thF f n : Int)) (hf : lieN n f) (hi : injN n f) : CtV l yX10_loads cX10_loads 3 none 2 44 77 [vR 45, vI (cdF f n)] M P (spQ M P n f) := by
  refine Ct_of (own := RX10) (L := [vR 45, vI (cdF f n), vX 1]) (by decide) rfl rfl (Nat.le_of_ble_eq_true rfl) (fun X Y hl hC hQ => ?_)
  have hth := th_lt (f := f) n hf
  have hlp2 : ∀ (c d : Nat) (dv : Int) (M1 : Mem), d + c = 6 → dv = (d : Int) → ldI M M1 f n d → G X Y 25 [vR 45, vI (cdF f n), vI dv] [] M1 P := by
    intro c
    induction c with
    | zero =>
      intro d dv M1 hd e1 hL
      subst e1
      have : d = 6 := by omega
      subst this
      refine G_il2 hC dX10_loads_25 ?_
      refine G_bipush hC dX10_loads_26 (by decide) ?_
      refine G_icmp_ge (tgt := 61) hC dX10_loads_28 (by decide) (by omega) (by omega) (fun c28 => ?_) (fun c28 => ?_)
      · exact G_vret hC hQ dX10_loads_61 ⟨rfl, rfl, fun g hg => by
  rw [hL.1 g hg]
  unfold nv
  rcases hf g hg with q | q
  · rw [if_pos q, if_neg (by omega)]
  · rw [if_neg (by omega), if_pos q], hL.2⟩
      · exact absurd c28 (by omega)
    | succ c ih =>
      intro d dv M1 hd e1 hL
      subst e1
      have hbt := bit_t (d := d) hth (by omega)
      have htb := th_tb (f := f) (d := d) (by omega) n
      have h42 : M1 45 42 = (thF f n : Int) := by rw [hL.2 45 (by unfold s63; omega)]; exact hth0
      by_cases hx : ∃ g, g < n ∧ f g = d
      · rw [if_pos (htb.mpr hx)] at hbt
        obtain ⟨g, hg, he⟩ := hx
        have hu : ∀ i, i < n → f i = d → i = g := fun i hi' ei => hi i g hi' hg (by omega) (by omega)
        have hse := se_at n hg he hu
        refine G_il2 hC dX10_loads_25 ?_
        refine G_bipush hC dX10_loads_26 (by decide) ?_
        refine G_icmp_ge (tgt := 61) hC dX10_loads_28 (by decide) (by omega) (by omega) (fun c28 => ?_) (fun c28 => ?_)
        · exact absurd c28 (by omega)
        · refine G_al0 hC dX10_loads_31 ?_
          refine G_getI hC fl_X10_241 (by first | assumption | rfl) (by omega) dX10_loads_32 ?_
          rw [h42]
          refine G_il2 hC dX10_loads_35 ?_
          refine G_ishr hC dX10_loads_36 ?_
          refine G_iconst hC dX10_loads_37 ?_
          refine G_iand hC dX10_loads_38 ?_
          rw [hbt]
          refine G_iconst hC dX10_loads_39 ?_
          refine G_icmp_ne (tgt := 55) hC dX10_loads_40 (by decide) (by omega) (by omega) (fun c40 => ?_) (fun c40 => ?_)
          · exact absurd rfl c40
          · refine G_al0 hC dX10_loads_43 ?_
            refine G_getR hC fl_X10_61 (by first | assumption | rfl) (by omega) (by first | assumption | exact hGr _ _ rfl) dX10_loads_44 ?_
            refine G_al0 hC dX10_loads_47 ?_
            refine G_il1 hC dX10_loads_48 ?_
            refine G_il2 hC dX10_loads_49 ?_
            refine G_callVI hC (c_X10_seatIn (d := d) hGr h42 hn6 hf hi (by omega)) mv_X10_244 (by first | assumption | rfl) (by omega) (by decide) rfl (by decide) dX10_loads_50 rfl (Nat.le_of_ble_eq_true rfl) rfl (fun z50 M50 P50 h50 => ?_)
            obtain ⟨rfl, rfl, rfl⟩ := h50
            rw [hse]
            refine G_il2 hC dX10_loads_53 ?_
            refine G_iastoreN (n := g) hC (by first | assumption | rfl) (by omega) (by omega) (by omega) dX10_loads_54 ?_
            refine G_inc2 hC dX10_loads_55 rfl ?_
            refine G_goto (tgt := 25) hC dX10_loads_58 (by decide) ?_
            exact ih (d + 1) _ _ (by omega) (by omega) ⟨fun x hx => by
              by_cases q : x = g
              · rw [q, upM_self, if_pos (by omega), he]
              · have hxd : f x ≠ d := fun z => q (hu x hx z)
                rw [upM_nej q, hL.1 x hx]
                by_cases z : f x < d
                · rw [if_pos z, if_pos (by omega)]
                · rw [if_neg z, if_neg (by omega)], hL.2.trans s63_up⟩
      · rw [if_neg (fun z => hx (htb.mp z))] at hbt
        refine G_il2 hC dX10_loads_25 ?_
        refine G_bipush hC dX10_loads_26 (by decide) ?_
        refine G_icmp_ge (tgt := 61) hC dX10_loads_28 (by decide) (by omega) (by omega) (fun c28 => ?_) (fun c28 => ?_)
        · exact absurd c28 (by omega)
        · refine G_al0 hC dX10_loads_31 ?_
          refine G_getI hC fl_X10_241 (by first | assumption | rfl) (by omega) dX10_loads_32 ?_
          rw [h42]
          refine G_il2 hC dX10_loads_35 ?_
          refine G_ishr hC dX10_loads_36 ?_
          refine G_iconst hC dX10_loads_37 ?_
          refine G_iand hC dX10_loads_38 ?_
          rw [hbt]
          refine G_iconst hC dX10_loads_39 ?_
          refine G_icmp_ne (tgt := 55) hC dX10_loads_40 (by decide) (by omega) (by omega) (fun c40 => ?_) (fun c40 => ?_)
          · refine G_inc2 hC dX10_loads_55 rfl ?_
            refine G_goto (tgt := 25) hC dX10_loads_58 (by decide) ?_
            exact ih (d + 1) _ _ (by omega) (by omega) ⟨fun x hx' => by
              have hxd : f x ≠ d := fun z => hx ⟨x, hx', z⟩
              rw [hL.1 x hx']
              by_cases z : f x < d
              · rw [if_pos z, if_pos (by omega)]
              · rw [if_neg z, if_neg (by omega)], hL.2⟩
          · exact absurd c40 (by omega)
  have hlp : ∀ (c g : Nat) (gv : Int) (M1 : Mem), g + c = n → gv = (g : Int) → (∀ b, b < g → M1 63 b = -1) → eqx s63 M M1 → G X Y 2 [vR 45, vI (cdF f n), vI gv] [] M1 P := by
    intro c
    induction c with
    | zero =>
      intro g gv M1 hg e1 h1 h2
      subst e1
      have : g = n := by omega
      subst this
      have h0 : M1 45 0 = (g : Int) := by rw [h2 45 (by unfold s63; omega)]; exact g0
      refine G_il2 hC dX10_loads_2 ?_
      refine G_al0 hC dX10_loads_3 ?_
      refine G_getI hC fl_X10_116 (by first | assumption | rfl) (by omega) dX10_loads_4 ?_
      rw [h0]
      refine G_icmp_ge (tgt := 23) hC dX10_loads_7 (by decide) (by omega) (by omega) (fun c7 => ?_) (fun c7 => ?_)
      · refine G_iconst hC dX10_loads_23 ?_
        refine G_is2 hC dX10_loads_24 rfl ?_
        exact hlp2 6 0 _ _ (by omega) rfl ⟨fun x hx => by rw [h1 x hx, if_neg (by omega)], h2⟩
      · exact absurd c7 (by omega)
    | succ c ih =>
      intro g gv M1 hg e1 h1 h2
      subst e1
      have h0 : M1 45 0 = (n : Int) := by rw [h2 45 (by unfold s63; omega)]; exact g0
      refine G_il2 hC dX10_loads_2 ?_
      refine G_al0 hC dX10_loads_3 ?_
      refine G_getI hC fl_X10_116 (by first | assumption | rfl) (by omega) dX10_loads_4 ?_
      rw [h0]
      refine G_icmp_ge (tgt := 23) hC dX10_loads_7 (by decide) (by omega) (by omega) (fun c7 => ?_) (fun c7 => ?_)
      · exact absurd c7 (by omega)
      · refine G_al0 hC dX10_loads_10 ?_
        refine G_getR hC fl_X10_61 (by first | assumption | rfl) (by omega) (by first | assumption | exact hGr _ _ rfl) dX10_loads_11 ?_
        refine G_il2 hC dX10_loads_14 ?_
        refine G_iconst hC dX10_loads_15 ?_
        refine G_iastoreN (n := g) hC (by first | assumption | rfl) (by omega) (by omega) (by omega) dX10_loads_16 ?_
        refine G_inc2 hC dX10_loads_17 rfl ?_
        refine G_goto (tgt := 2) hC dX10_loads_20 (by decide) ?_
        exact ih (g + 1) _ _ (by omega) (by omega) (fun b hb => by
          by_cases q : b = g
          · rw [q, upM_self]
          · rw [upM_nej q]; exact h1 b (by omega)) (h2.trans s63_up)
  refine G_iconst hC dX10_loads_0 ?_
  refine G_is2 hC dX10_loads_1 rfl ?_
  exact hlp n 0 _ M (by omega) rfl (fun b hb => by omega) eqx.refl
def MLi (M : Mem) (n st : Nat) (f0 : Nat → Nat) (L : List BE) : Prop := (M 45 41 = (L.length : Int) ∧ M 45 37 = (st : Int) ∧ M 45 42 = (thF f0 n : Int)) ∧ (L.length ≤ 720 ∧ 1 ≤ st ∧ st ≤ 100000) ∧ (∀ k (e : BE), L[k]? = some e → M 68 k = (cdF (dgf e.1) n : Int) ∧ M 69 k = (e.2.1 : Int) ∧ M 70 k = (e.2.2 : Int) ∧ M 67 (cdF (dgf e.1) n) = 1024 * (st : Int) + k) ∧ ∀ q, q < 46656 → (∀ e ∈ L, cdF (dgf e.1) n ≠ q) → 0 ≤ M 67 q ∧ M 67 q < 1024 * (st : Int)
def lK (M M' : Mem) : Prop := (∀ a, a ≠ 45 → a ≠ 63 → ¬ (67 ≤ a ∧ a ≤ 70) → ∀ b, M' a b = M a b) ∧ ∀ b, b ≠ 37 → b ≠ 41 → b ≠ 42 → M' 45 b = M 45 b
theorem lK.refl {M : Mem} : lK M M := ⟨fun _ _ _ _ _ => rfl, fun _ _ _ _ => rfl⟩
theorem lK.trans {M M' M'' : Mem} (h : lK M M') (h' : lK M' M'') : lK M M'' := ⟨fun a h1 h2 h3 b => (h'.1 a h1 h2 h3 b).trans (h.1 a h1 h2 h3 b), fun b h1 h2 h3 => (h'.2 b h1 h2 h3).trans (h.2 b h1 h2 h3)⟩
theorem lK_63 {M M' : Mem} (h : eqx s63 M M') : lK M M' := ⟨fun a h1 h2 h3 b => h a h2 b, fun b h1 h2 h3 => h 45 (by unfold s63; omega) b⟩
theorem MLi_x {M M' : Mem} {n st : Nat} {f0 : Nat → Nat} {L : List BE} (h : MLi M n st f0 L) (e45 : ∀ b, b = 37 ∨ b = 41 ∨ b = 42 → M' 45 b = M 45 b) (e : ∀ a, 67 ≤ a → a ≤ 70 → ∀ b, M' a b = M a b) : MLi M' n st f0 L := by
  obtain ⟨⟨h1, h2, h3⟩, h4, h5, h6⟩ := h
  exact ⟨⟨by rw [e45 41 (by omega)]; exact h1, by rw [e45 37 (by omega)]; exact h2, by rw [e45 42 (by omega)]; exact h3⟩, h4, fun k x hk => by rw [e 68 (by omega) (by omega), e 69 (by omega) (by omega), e 70 (by omega) (by omega), e 67 (by omega) (by omega)]; exact h5 k x hk, fun q hq hn => by rw [e 67 (by omega) (by omega)]; exact h6 q hq hn⟩
theorem MLi_63 {M M' : Mem} {n st : Nat} {f0 : Nat → Nat} {L : List BE} (h : MLi M n st f0 L) (hx : eqx s63 M M') : MLi M' n st f0 L := MLi_x h (fun b hb => hx 45 (by unfold s63; omega) b) (fun a h1 h2 b => hx a (by unfold s63; omega) b)
set_option maxHeartbeats 4000000 in
set_option maxRecDepth 100000 in
theorem c_X10_index1 {l : Launch} {n st k : Nat} {f0 : Nat → Nat} {L : List BE} {e : BE} {M : Mem} {P : PMem} (hGr : GrM P) (hL : MLi M n st f0 L) (hk : L[k]? = some e) (hc : cdF (dgf e.1) n < 46656) : CtI l yX10_indexOf cX10_indexOf 2 (some .int) 0 0 77 [vR 45, vI (cdF (dgf e.1) n)] M P (pI k M P) := by
  refine Ct_of (own := RX10) (L := [vR 45, vI (cdF (dgf e.1) n)]) (by decide) rfl rfl (Nat.le_of_ble_eq_true rfl) (fun X Y hl hC hQ => ?_)
  obtain ⟨⟨h1, h2, h3⟩, ⟨h41, h42, h43⟩, h5, h6⟩ := id hL
  obtain ⟨c1, c2, c3, c4⟩ := h5 k e hk
  have hkl := (List.getElem?_eq_some_iff.mp hk).1
  refine G_al0 hC dX10_indexOf_0 ?_
  refine G_getR hC fl_X10_74 (by first | assumption | rfl) (by omega) (by first | assumption | exact hGr _ _ rfl) dX10_indexOf_1 ?_
  refine G_il1 hC dX10_indexOf_4 ?_
  refine G_ialoadN (n := cdF (dgf e.1) n) hC (by first | assumption | rfl) (by omega) (by omega) (by omega) dX10_indexOf_5 ?_
  rw [c4]
  refine G_sipush hC dX10_indexOf_6 (by decide) ?_
  refine G_idiv hC dX10_indexOf_9 (by omega) (by omega) ?_
  refine G_al0 hC dX10_indexOf_10 ?_
  refine G_getI hC fl_X10_247 (by first | assumption | rfl) (by omega) dX10_indexOf_11 ?_
  rw [h2]
  refine G_icmp_ne (tgt := 30) hC dX10_indexOf_14 (by decide) (by omega) (by omega) (fun c14 => ?_) (fun c14 => ?_)
  · exact absurd (by omega) c14
  · refine G_al0 hC dX10_indexOf_17 ?_
    refine G_getR hC fl_X10_74 (by first | assumption | rfl) (by omega) (by first | assumption | exact hGr _ _ rfl) dX10_indexOf_18 ?_
    refine G_il1 hC dX10_indexOf_21 ?_
    refine G_ialoadN (n := cdF (dgf e.1) n) hC (by first | assumption | rfl) (by omega) (by omega) (by omega) dX10_indexOf_22 ?_
    rw [c4]
    refine G_sipush hC dX10_indexOf_23 (by decide) ?_
    refine G_irem hC dX10_indexOf_26 (by omega) (by omega) ?_
    refine G_goto (tgt := 31) hC dX10_indexOf_27 (by decide) ?_
    exact G_iret hC hQ dX10_indexOf_31 ⟨_, rfl, by omega, rfl, rfl⟩
set_option maxHeartbeats 4000000 in
set_option maxRecDepth 100000 in
theorem c_X10_index0 {l : Launch} {n st q : Nat} {f0 : Nat → Nat} {L : List BE} {M : Mem} {P : PMem} (hGr : GrM P) (hL : MLi M n st f0 L) (hc : q < 46656) (hno : ∀ e ∈ L, cdF (dgf e.1) n ≠ q) : CtI l yX10_indexOf cX10_indexOf 2 (some .int) 0 0 77 [vR 45, vI q] M P (pI (-1) M P) := by
  refine Ct_of (own := RX10) (L := [vR 45, vI q]) (by decide) rfl rfl (Nat.le_of_ble_eq_true rfl) (fun X Y hl hC hQ => ?_)
  obtain ⟨⟨h1, h2, h3⟩, ⟨h41, h42, h43⟩, h5, h6⟩ := id hL
  have c4 := h6 q hc hno
  refine G_al0 hC dX10_indexOf_0 ?_
  refine G_getR hC fl_X10_74 (by first | assumption | rfl) (by omega) (by first | assumption | exact hGr _ _ rfl) dX10_indexOf_1 ?_
  refine G_il1 hC dX10_indexOf_4 ?_
  refine G_ialoadN (n := q) hC (by first | assumption | rfl) (by omega) (by omega) (by omega) dX10_indexOf_5 ?_
  refine G_sipush hC dX10_indexOf_6 (by decide) ?_
  refine G_idiv hC dX10_indexOf_9 (by omega) (by omega) ?_
  refine G_al0 hC dX10_indexOf_10 ?_
  refine G_getI hC fl_X10_247 (by first | assumption | rfl) (by omega) dX10_indexOf_11 ?_
  rw [h2]
  refine G_icmp_ne (tgt := 30) hC dX10_indexOf_14 (by decide) (by omega) (by omega) (fun c14 => ?_) (fun c14 => ?_)
  · refine G_iconst hC dX10_indexOf_30 ?_
    exact G_iret hC hQ dX10_indexOf_31 ⟨_, rfl, rfl, rfl, rfl⟩
  · exact absurd c14 (by omega)
def adMM (M : Mem) (q : Nat) (s o : Int) (st l : Nat) : Mem := upM (upM (upM (upM (upM M 67 q (1024 * (st : Int) + l)) 68 l q) 69 l s) 70 l o) 45 41 ((l : Int) + 1)
set_option maxHeartbeats 4000000 in
set_option maxRecDepth 100000 in
theorem c_X10_adds {l : Launch} {q st l0 : Nat} {s o : Int} {M : Mem} {P : PMem} (hGr : GrM P) (h37 : M 45 37 = (st : Int)) (h41 : M 45 41 = (l0 : Int)) (hq : q < 46656) (hl : l0 < 720) : CtV l yX10_adds cX10_adds 4 none 0 0 77 [vR 45, vI q, vI s, vI o] M P (pV (adMM M q s o st l0) P) := by
  refine Ct_of (own := RX10) (L := [vR 45, vI q, vI s, vI o]) (by decide) rfl rfl (Nat.le_of_ble_eq_true rfl) (fun X Y hl hC hQ => ?_)
  refine G_al0 hC dX10_adds_0 ?_
  refine G_getR hC fl_X10_74 (by first | assumption | rfl) (by omega) (by first | assumption | exact hGr _ _ rfl) dX10_adds_1 ?_
  refine G_il1 hC dX10_adds_4 ?_
  refine G_sipush hC dX10_adds_5 (by decide) ?_
  refine G_al0 hC dX10_adds_8 ?_
  refine G_getI hC fl_X10_247 (by first | assumption | rfl) (by omega) dX10_adds_9 ?_
  rw [h37]
  refine G_imul hC dX10_adds_12 ?_
  refine G_al0 hC dX10_adds_13 ?_
  refine G_getI hC fl_X10_250 (by first | assumption | rfl) (by omega) dX10_adds_14 ?_
  rw [h41]
  refine G_iadd hC dX10_adds_17 ?_
  refine G_iastoreN (n := q) hC (by first | assumption | rfl) (by omega) (by omega) (by omega) dX10_adds_18 ?_
  refine G_al0 hC dX10_adds_19 ?_
  refine G_getR hC fl_X10_77 (by first | assumption | rfl) (by omega) (by first | assumption | exact hGr _ _ rfl) dX10_adds_20 ?_
  refine G_al0 hC dX10_adds_23 ?_
  refine G_getI hC fl_X10_250 (by first | assumption | rfl) (by omega) dX10_adds_24 ?_
  rw [upM_ne (by omega), h41]
  refine G_il1 hC dX10_adds_27 ?_
  refine G_iastoreN (n := l0) hC (by first | assumption | rfl) (by omega) (by omega) (by omega) dX10_adds_28 ?_
  refine G_al0 hC dX10_adds_29 ?_
  refine G_getR hC fl_X10_80 (by first | assumption | rfl) (by omega) (by first | assumption | exact hGr _ _ rfl) dX10_adds_30 ?_
  refine G_al0 hC dX10_adds_33 ?_
  refine G_getI hC fl_X10_250 (by first | assumption | rfl) (by omega) dX10_adds_34 ?_
  rw [upM_ne (by omega), upM_ne (by omega), h41]
  refine G_il2 hC dX10_adds_37 ?_
  refine G_iastoreN (n := l0) hC (by first | assumption | rfl) (by omega) (by omega) (by omega) dX10_adds_38 ?_
  refine G_al0 hC dX10_adds_39 ?_
  refine G_getR hC fl_X10_83 (by first | assumption | rfl) (by omega) (by first | assumption | exact hGr _ _ rfl) dX10_adds_40 ?_
  refine G_al0 hC dX10_adds_43 ?_
  refine G_getI hC fl_X10_250 (by first | assumption | rfl) (by omega) dX10_adds_44 ?_
  rw [upM_ne (by omega), upM_ne (by omega), upM_ne (by omega), h41]
  refine G_il3 hC dX10_adds_47 ?_
  refine G_iastoreN (n := l0) hC (by first | assumption | rfl) (by omega) (by omega) (by omega) dX10_adds_48 ?_
  refine G_al0 hC dX10_adds_49 ?_
  refine G_dup hC dX10_adds_50 rfl ?_
  refine G_getI hC fl_X10_250 (by first | assumption | rfl) (by omega) dX10_adds_51 ?_
  rw [upM_ne (by omega), upM_ne (by omega), upM_ne (by omega), upM_ne (by omega), h41]
  refine G_iconst hC dX10_adds_54 ?_
  refine G_iadd hC dX10_adds_55 ?_
  refine G_putI hC fl_X10_250 (by first | assumption | rfl) (by omega) dX10_adds_56 ?_
  exact G_vret hC hQ dX10_adds_59 ⟨rfl, rfl, rfl⟩
theorem adMM_R {M : Mem} {n st : Nat} {f0 : Nat → Nat} {L : List BE} {x : BE} (h : MLi M n st f0 L) (hl : L.length < 720) (hc : cdF (dgf x.1) n < 46656) (hno : ∀ e ∈ L, cdF (dgf e.1) n ≠ cdF (dgf x.1) n) : MLi (adMM M (cdF (dgf x.1) n) x.2.1 x.2.2 st L.length) n st f0 (L ++ [x]) ∧ lK M (adMM M (cdF (dgf x.1) n) x.2.1 x.2.2 st L.length) := by
  obtain ⟨⟨h1, h2, h3⟩, ⟨h41, h42, h43⟩, h5, h6⟩ := h
  have e67 : ∀ q, adMM M (cdF (dgf x.1) n) x.2.1 x.2.2 st L.length 67 q = if q = cdF (dgf x.1) n then 1024 * (st : Int) + L.length else M 67 q := fun q => by
    unfold adMM
    rw [upM_ne (by omega), upM_ne (by omega), upM_ne (by omega), upM_ne (by omega)]
    by_cases z : q = cdF (dgf x.1) n
    · rw [z, upM_self, if_pos rfl]
    · rw [upM_nej z, if_neg z]
  have e68 : ∀ k, adMM M (cdF (dgf x.1) n) x.2.1 x.2.2 st L.length 68 k = if k = L.length then (cdF (dgf x.1) n : Int) else M 68 k := fun k => by
    unfold adMM
    rw [upM_ne (by omega), upM_ne (by omega), upM_ne (by omega)]
    by_cases z : k = L.length
    · rw [z, upM_self, if_pos rfl]
    · rw [upM_nej z, upM_ne (by omega), if_neg z]
  have e69 : ∀ k, adMM M (cdF (dgf x.1) n) x.2.1 x.2.2 st L.length 69 k = if k = L.length then (x.2.1 : Int) else M 69 k := fun k => by
    unfold adMM
    rw [upM_ne (by omega), upM_ne (by omega)]
    by_cases z : k = L.length
    · rw [z, upM_self, if_pos rfl]
    · rw [upM_nej z, upM_ne (by omega), upM_ne (by omega), if_neg z]
  have e70 : ∀ k, adMM M (cdF (dgf x.1) n) x.2.1 x.2.2 st L.length 70 k = if k = L.length then (x.2.2 : Int) else M 70 k := fun k => by
    unfold adMM
    rw [upM_ne (by omega)]
    by_cases z : k = L.length
    · rw [z, upM_self, if_pos rfl]
    · rw [upM_nej z, upM_ne (by omega), upM_ne (by omega), upM_ne (by omega), if_neg z]
  have e45 : ∀ b, b ≠ 41 → adMM M (cdF (dgf x.1) n) x.2.1 x.2.2 st L.length 45 b = M 45 b := fun b hb => by
    unfold adMM
    rw [upM_nej hb, upM_ne (by omega), upM_ne (by omega), upM_ne (by omega), upM_ne (by omega)]
  have hlen : (L ++ [x]).length = L.length + 1 := by simp
  refine ⟨⟨⟨by rw [hlen]; unfold adMM; rw [upM_self]; omega, by rw [e45 _ (by omega)]; exact h2, by rw [e45 _ (by omega)]; exact h3⟩, ⟨by omega, h42, h43⟩, fun k e hk => ?_, fun q hq hn => ?_⟩, fun a h1 h2 h3 b => ?_, fun b _ hb _ => e45 b hb⟩
  · rcases get_app hk with ⟨z1, z2⟩ | ⟨z1, rfl⟩
    · obtain ⟨c1, c2, c3, c4⟩ := h5 k e z2
      rw [e68, e69, e70, e67, if_neg (by omega), if_neg (by omega), if_neg (by omega), if_neg (hno e (List.mem_of_getElem? z2))]
      exact ⟨c1, c2, c3, c4⟩
    · rw [e68, e69, e70, e67, if_pos z1, if_pos z1, if_pos z1, if_pos rfl, z1]
      exact ⟨rfl, rfl, rfl, rfl⟩
  · rw [e67, if_neg (fun z => hn x (by simp) z.symm)]
    exact h6 q hq (fun e he => hn e (by simp [he]))
  · unfold adMM
    rw [upM_ne h1, upM_ne (by omega), upM_ne (by omega), upM_ne (by omega), upM_ne (by omega)]
