theorem Ct_monoV {l : Launch} {y : MethodName} {cc : ByteArray} {nL : Nat} {rt : Option FieldType} {fr lo nm : Nat} {as : List AV} {M : Mem} {P : PMem} {Q Q' : Mem → PMem → Prop} (h : CtV l y cc nL rt fr lo nm as M P Q) (hq : ∀ M' P', Q M' P' → Q' M' P') : CtV l y cc nL rt fr lo nm as M P Q' := Ct.mono h (fun _ _ _ q => ⟨q.1, hq _ _ q.2⟩)
theorem Ct_monoI {l : Launch} {y : MethodName} {cc : ByteArray} {nL : Nat} {rt : Option FieldType} {fr lo nm : Nat} {as : List AV} {M : Mem} {P : PMem} {Q Q' : Int → Mem → PMem → Prop} (h : CtI l y cc nL rt fr lo nm as M P Q) (hq : ∀ z M' P', Q z M' P' → Q' z M' P') : CtI l y cc nL rt fr lo nm as M P Q' := Ct.mono h (fun _ _ _ q => by obtain ⟨z, q1, q2⟩ := q; exact ⟨z, q1, hq _ _ _ q2⟩)
theorem Ct_monoL {l : Launch} {y : MethodName} {cc : ByteArray} {nL : Nat} {rt : Option FieldType} {fr lo nm : Nat} {as : List AV} {M : Mem} {P : PMem} {Q Q' : Int → Mem → PMem → Prop} (h : CtL l y cc nL rt fr lo nm as M P Q) (hq : ∀ z M' P', Q z M' P' → Q' z M' P') : CtL l y cc nL rt fr lo nm as M P Q' := Ct.mono h (fun _ _ _ q => by obtain ⟨z, q1, q2⟩ := q; exact ⟨z, q1, hq _ _ _ q2⟩)
theorem c_putN {l : Launch} {k z i : Nat} {v : Int} {M : Mem} {P : PMem} (hs : shp k = (11, z)) (hk : k < 45) (hi : i < z) : CtV l yX9_put cX9_put 3 none 0 0 45 [vR k, vI i, vI v] M P (pV (upM M k i v) P) := by
  have hz := shp_lt hs
  refine Ct_monoV (c_X9_put hs hk (by omega)) (fun M' P' h => ?_)
  unfold putM at h
  rw [if_pos (by omega)] at h
  exact h
theorem c_atN {l : Launch} {k z i : Nat} {M : Mem} {P : PMem} (hs : shp k = (11, z)) (hk : k < 45) (hi : i < z) : CtI l yX9_at cX9_at 2 (some .int) 0 0 45 [vR k, vI i] M P (pI (M k i) M P) := by
  have hz := shp_lt hs
  refine Ct_monoI (c_X9_at hs hk (by omega)) (fun z M' P' h => ?_)
  unfold atV at h
  rw [if_pos (by omega)] at h
  exact h
set_option maxHeartbeats 4000000 in
set_option maxRecDepth 100000 in
theorem c_X7_worthRaw {l : Launch} {t g d : Nat} {M : Mem} {P : PMem} (hGr : Gr P) (ht : isT t) (hg : g < 6) (hd : d < 6) : CtI l yX7_worthOf cX7_worthOf 3 (some .int) 0 0 45 [vR t, vI g, vI d] M P (pI (M (t + 3) (6 * g + d)) M P) := by
  refine Ct_of (own := RX7) (L := [vR t, vI g, vI d]) (by decide) rfl rfl (Nat.le_of_ble_eq_true rfl) (fun X Y hl hC hQ => ?_)
  obtain ⟨hs0, hs1, hs2, hs3, hb3, hp6, hp7, hp8⟩ := isT_all hGr ht
  refine G_il1 hC dX7_worthOf_0 ?_
  refine G_if_lt (tgt := 20) hC dX7_worthOf_1 (by decide) (by omega) (fun c1 => ?_) (fun c1 => ?_)
  · exact absurd c1 (by omega)
  · refine G_il1 hC dX7_worthOf_4 ?_
    refine G_bipush hC dX7_worthOf_5 (by decide) ?_
    refine G_icmp_ge (tgt := 20) hC dX7_worthOf_7 (by decide) (by omega) (by omega) (fun c7 => ?_) (fun c7 => ?_)
    · exact absurd c7 (by omega)
    · refine G_il2 hC dX7_worthOf_10 ?_
      refine G_if_lt (tgt := 20) hC dX7_worthOf_11 (by decide) (by omega) (fun c11 => ?_) (fun c11 => ?_)
      · exact absurd c11 (by omega)
      · refine G_il2 hC dX7_worthOf_14 ?_
        refine G_bipush hC dX7_worthOf_15 (by decide) ?_
        refine G_icmp_lt (tgt := 22) hC dX7_worthOf_17 (by decide) (by omega) (by omega) (fun c17 => ?_) (fun c17 => ?_)
        · refine G_al0 hC dX7_worthOf_22 ?_
          refine G_getR hC fl_X7_18 (by first | assumption | rfl) (by omega) (by first | assumption | exact hGr _ _ _ rfl) dX7_worthOf_23 ?_
          refine G_il1 hC dX7_worthOf_26 ?_
          refine G_bipush hC dX7_worthOf_27 (by decide) ?_
          refine G_imul hC dX7_worthOf_29 ?_
          refine G_il2 hC dX7_worthOf_30 ?_
          refine G_iadd hC dX7_worthOf_31 ?_
          refine G_iaload hC (by first | assumption | rfl) (by omega) (by omega) dX7_worthOf_32 ?_
          exact G_iret hC hQ dX7_worthOf_33 ⟨_, rfl, by congr 1; omega, rfl, rfl⟩
        · exact absurd c17 (by omega)
theorem m_one (n : Nat) (h : n < 31) : bShl 1 n = ((2 ^ n : Nat) : Int) := by
  have h2 : 2 ^ n < 2 ^ 31 := Nat.pow_lt_pow_right (by omega) h
  rw [show (1 : Int) = ((1 : Nat) : Int) by rfl, bShl_n (by omega) (by omega), Nat.one_mul]
set_option maxHeartbeats 4000000 in
set_option maxRecDepth 100000 in
theorem c_X7_allDishes {l : Launch} {t nd : Nat} {M : Mem} {P : PMem} (hGr : Gr P) (ht : isT t) (hd : M t 1 = (nd : Int)) (hn : nd ≤ 6) : CtI l yX7_allDishes cX7_allDishes 1 (some .int) 0 0 45 [vR t] M P (pI (((2 ^ nd : Nat) : Int) - 1) M P) := by
  refine Ct_of (own := RX7) (L := [vR t]) (by decide) rfl rfl (Nat.le_of_ble_eq_true rfl) (fun X Y hl hC hQ => ?_)
  obtain ⟨hs0, hs1, hs2, hs3, hb3, hp6, hp7, hp8⟩ := isT_all hGr ht
  refine G_iconst hC dX7_allDishes_0 ?_
  refine G_al0 hC dX7_allDishes_1 ?_
  refine G_getI hC fl_X7_25 (by first | assumption | rfl) (by omega) dX7_allDishes_2 ?_
  refine G_ishl hC dX7_allDishes_5 ?_
  refine G_iconst hC dX7_allDishes_6 ?_
  refine G_isub hC dX7_allDishes_7 ?_
  exact G_iret hC hQ dX7_allDishes_8 ⟨_, rfl, by rw [hd, m_one nd (by omega)], rfl, rfl⟩
set_option maxHeartbeats 4000000 in
set_option maxRecDepth 100000 in
theorem c_X7_setKind {l : Launch} {t g : Nat} {v : Int} {M : Mem} {P : PMem} (hGr : Gr P) (ht : isT t) (hg : g < 6) : CtV l yX7_setKind cX7_setKind 3 none 1 22 45 [vR t, vI g, vI v] M P (pV (upM M (t + 1) g v) P) := by
  refine Ct_of (own := RX7) (L := [vR t, vI g, vI v]) (by decide) rfl rfl (Nat.le_of_ble_eq_true rfl) (fun X Y hl hC hQ => ?_)
  obtain ⟨hs0, hs1, hs2, hs3, hb3, hp6, hp7, hp8⟩ := isT_all hGr ht
  refine G_al0 hC dX7_setKind_0 ?_
  refine G_getR hC fl_X7_9 (by first | assumption | rfl) (by omega) (by first | assumption | exact hGr _ _ _ rfl) dX7_setKind_1 ?_
  refine G_il1 hC dX7_setKind_4 ?_
  refine G_il2 hC dX7_setKind_5 ?_
  refine G_callSV hC (c_putN hs1 (by omega) hg) ms_X7_49 (by decide) rfl (by decide) dX7_setKind_6 rfl (Nat.le_of_ble_eq_true rfl) rfl (fun M6 P6 h6 => ?_)
  obtain ⟨rfl, rfl⟩ := h6
  exact G_vret hC hQ dX7_setKind_9 ⟨rfl, rfl, rfl⟩
set_option maxHeartbeats 4000000 in
set_option maxRecDepth 100000 in
theorem c_X7_setWorth {l : Launch} {t g d : Nat} {v : Int} {M : Mem} {P : PMem} (hGr : Gr P) (ht : isT t) (hg : g < 6) (hd : d < 6) : CtV l yX7_setWorth cX7_setWorth 4 none 1 22 45 [vR t, vI g, vI d, vI v] M P (pV (upM M (t + 3) (6 * g + d) v) P) := by
  refine Ct_of (own := RX7) (L := [vR t, vI g, vI d, vI v]) (by decide) rfl rfl (Nat.le_of_ble_eq_true rfl) (fun X Y hl hC hQ => ?_)
  obtain ⟨hs0, hs1, hs2, hs3, hb3, hp6, hp7, hp8⟩ := isT_all hGr ht
  refine G_al0 hC dX7_setWorth_0 ?_
  refine G_getR hC fl_X7_18 (by first | assumption | rfl) (by omega) (by first | assumption | exact hGr _ _ _ rfl) dX7_setWorth_1 ?_
  refine G_il1 hC dX7_setWorth_4 ?_
  refine G_bipush hC dX7_setWorth_5 (by decide) ?_
  refine G_imul hC dX7_setWorth_7 ?_
  refine G_il2 hC dX7_setWorth_8 ?_
  refine G_iadd hC dX7_setWorth_9 ?_
  refine G_il3 hC dX7_setWorth_10 ?_
  refine G_callSV hC (c_X9_put hs3 (by omega) (by omega)) ms_X7_49 (by decide) rfl (by decide) dX7_setWorth_11 rfl (Nat.le_of_ble_eq_true rfl) rfl (fun M11 P11 h11 => ?_)
  obtain ⟨rfl, rfl⟩ := h11
  exact G_vret hC hQ dX7_setWorth_14 ⟨rfl, by unfold putM; rw [if_pos (by omega), show ((g : Int) * 6 + d).toNat = 6 * g + d by omega], rfl⟩
def clM (M : Mem) (t : Nat) : Mem := upM (upM (upM (upM (upM (upM M t 0 0) t 1 3) t 2 0) t 3 9) t 4 1) t 5 262143
set_option maxHeartbeats 4000000 in
set_option maxRecDepth 100000 in
theorem c_X7_clear {l : Launch} {t : Nat} {M : Mem} {P : PMem} (hGr : Gr P) (ht : isT t)  : CtV l yX7_clear cX7_clear 1 none 0 0 45 [vR t] M P (pV (clM M t) P) := by
  refine Ct_of (own := RX7) (L := [vR t]) (by decide) rfl rfl (Nat.le_of_ble_eq_true rfl) (fun X Y hl hC hQ => ?_)
  obtain ⟨hs0, hs1, hs2, hs3, hb3, hp6, hp7, hp8⟩ := isT_all hGr ht
  refine G_al0 hC dX7_clear_0 ?_
  refine G_iconst hC dX7_clear_1 ?_
  refine G_putI hC fl_X7_21 (by first | assumption | rfl) (by omega) dX7_clear_2 ?_
  refine G_al0 hC dX7_clear_5 ?_
  refine G_iconst hC dX7_clear_6 ?_
  refine G_putI hC fl_X7_25 (by first | assumption | rfl) (by omega) dX7_clear_7 ?_
  refine G_al0 hC dX7_clear_10 ?_
  refine G_iconst hC dX7_clear_11 ?_
  refine G_putI hC fl_X7_28 (by first | assumption | rfl) (by omega) dX7_clear_12 ?_
  refine G_al0 hC dX7_clear_15 ?_
  refine G_bipush hC dX7_clear_16 (by decide) ?_
  refine G_putI hC fl_X7_31 (by first | assumption | rfl) (by omega) dX7_clear_18 ?_
  refine G_al0 hC dX7_clear_21 ?_
  refine G_iconst hC dX7_clear_22 ?_
  refine G_putI hC fl_X7_34 (by first | assumption | rfl) (by omega) dX7_clear_23 ?_
  refine G_al0 hC dX7_clear_26 ?_
  refine G_ldc (z := 262143) hC kc_X7_37 (by decide) dX7_clear_27 ?_
  refine G_putI hC fl_X7_38 (by first | assumption | rfl) (by omega) dX7_clear_29 ?_
  exact G_vret hC hQ dX7_clear_32 ⟨rfl, rfl, rfl⟩
def tgM (M : Mem) (t g o fr0 n : Nat) : Mem := fun a b => if a = t + 1 ∧ b = g then M (o + 1) fr0 else if a = t + 2 ∧ b = g then M (o + 2) fr0 else if a = t + 3 ∧ 6 * g ≤ b ∧ b < 6 * g + n then M (o + 3) (6 * fr0 + (b - 6 * g)) else M a b
theorem tgM_0 {M : Mem} {t g o fr0 : Nat} (hto : o + 3 < t ∨ t + 3 < o) : upM (upM M (t + 1) g (M (o + 1) fr0)) (t + 2) g (upM M (t + 1) g (M (o + 1) fr0) (o + 2) fr0) = tgM M t g o fr0 0 := by
  funext a b
  unfold tgM
  simp only [upM]
  split
  · rename_i h
    rw [if_neg (by omega), if_neg (by omega)]
  · split
    · rfl
    · rw [if_neg (by omega)]
theorem tgM_s {M : Mem} {t g o fr0 n : Nat} (hto : o + 3 < t ∨ t + 3 < o) : upM (tgM M t g o fr0 n) (t + 3) (6 * g + n) (tgM M t g o fr0 n (o + 3) (6 * fr0 + n)) = tgM M t g o fr0 (n + 1) := by
  funext a b
  unfold tgM
  simp only [upM]
  by_cases h : a = t + 3 ∧ b = 6 * g + n
  · rw [if_pos h, if_neg (by omega), if_neg (by omega), if_neg (by omega), if_neg (by omega), if_neg (by omega), if_pos (by omega)]
    congr 1; omega
  · rw [if_neg h]
    by_cases h1 : a = t + 1 ∧ b = g
    · rw [if_pos h1, if_pos h1]
    · rw [if_neg h1, if_neg h1]
      by_cases h2 : a = t + 2 ∧ b = g
      · rw [if_pos h2, if_pos h2]
      · rw [if_neg h2, if_neg h2]
        by_cases h3 : a = t + 3 ∧ 6 * g ≤ b ∧ b < 6 * g + n
        · rw [if_pos h3, if_pos (by omega)]
        · rw [if_neg h3, if_neg (by omega)]
set_option maxHeartbeats 4000000 in
set_option maxRecDepth 100000 in
theorem c_X7_takeGuest {l : Launch} {t g o fr0 : Nat} {M : Mem} {P : PMem} (hGr : Gr P) (ht : isT t) (ho : isT o) (hto : o + 3 < t ∨ t + 3 < o) (hg : g < 6) (hf : fr0 < 6) : CtV l yX7_takeGuest cX7_takeGuest 5 none 2 45 45 [vR t, vI g, vR o, vI fr0] M P (pV (tgM M t g o fr0 6) P) := by
  refine Ct_of (own := RX7) (L := [vR t, vI g, vR o, vI fr0, vX 1]) (by decide) rfl rfl (Nat.le_of_ble_eq_true rfl) (fun X Y hl hC hQ => ?_)
  obtain ⟨hs0, hs1, hs2, hs3, hb3, hp6, hp7, hp8⟩ := isT_all hGr ht
  obtain ⟨ks0, ks1, ks2, ks3, kb3, kp6, kp7, kp8⟩ := isT_all hGr ho
  have hlp : ∀ n d : Nat, d + n = 6 → ∀ (dv : Int) (M1 : Mem), dv = (d : Int) → M1 = tgM M t g o fr0 d → G X Y 29 [vR t, vI g, vR o, vI fr0, vI dv] [] M1 P := by
    intro n
    induction n with
    | zero =>
      intro d hd dv M1 e1 e2
      subst e1; subst e2
      refine G_il4 hC dX7_takeGuest_29 ?_
      refine G_bipush hC dX7_takeGuest_31 (by decide) ?_
      refine G_icmp_ge (tgt := 56) hC dX7_takeGuest_33 (by decide) (by omega) (by omega) (fun c33 => ?_) (fun c33 => ?_)
      · exact G_vret hC hQ dX7_takeGuest_56 ⟨rfl, by rw [show d = 6 by omega], rfl⟩
      · exact absurd c33 (by omega)
    | succ n ih =>
      intro d hd dv M1 e1 e2
      subst e1; subst e2
      refine G_il4 hC dX7_takeGuest_29 ?_
      refine G_bipush hC dX7_takeGuest_31 (by decide) ?_
      refine G_icmp_ge (tgt := 56) hC dX7_takeGuest_33 (by decide) (by omega) (by omega) (fun c33 => ?_) (fun c33 => ?_)
      · exact absurd c33 (by omega)
      · refine G_al0 hC dX7_takeGuest_36 ?_
        refine G_il1 hC dX7_takeGuest_37 ?_
        refine G_il4 hC dX7_takeGuest_38 ?_
        refine G_al2 hC dX7_takeGuest_40 ?_
        refine G_il3 hC dX7_takeGuest_41 ?_
        refine G_il4 hC dX7_takeGuest_42 ?_
        refine G_callVI hC (c_X7_worthRaw hGr ho hf (by omega)) mv_X7_56 (by first | assumption | rfl) (by omega) (by decide) rfl (by decide) dX7_takeGuest_44 rfl (Nat.le_of_ble_eq_true rfl) rfl (fun z44 M44 P44 h44 => ?_)
        obtain ⟨rfl, rfl, rfl⟩ := h44
        refine G_callVV hC (c_X7_setWorth hGr ht hg (by omega)) mv_X7_60 (by first | assumption | rfl) (by omega) (by decide) rfl (by decide) dX7_takeGuest_47 rfl (Nat.le_of_ble_eq_true rfl) rfl (fun M47 P47 h47 => ?_)
        obtain ⟨rfl, rfl⟩ := h47
        refine G_inc4 hC dX7_takeGuest_50 rfl ?_
        refine G_goto (tgt := 29) hC dX7_takeGuest_53 (by decide) ?_
        exact ih (d + 1) (by omega) _ _ (by omega) (tgM_s hto)
  refine G_al0 hC dX7_takeGuest_0 ?_
  refine G_getR hC fl_X7_9 (by first | assumption | rfl) (by omega) (by first | assumption | exact hGr _ _ _ rfl) dX7_takeGuest_1 ?_
  refine G_il1 hC dX7_takeGuest_4 ?_
  refine G_al2 hC dX7_takeGuest_5 ?_
  refine G_il3 hC dX7_takeGuest_6 ?_
  refine G_callVI hC (c_X7_kindOf hGr ho hf) mv_X7_45 (by first | assumption | rfl) (by omega) (by decide) rfl (by decide) dX7_takeGuest_7 rfl (Nat.le_of_ble_eq_true rfl) rfl (fun z7 M7 P7 h7 => ?_)
  obtain ⟨rfl, rfl, rfl⟩ := h7
  refine G_callSV hC (c_putN hs1 (by omega) hg) ms_X7_49 (by decide) rfl (by decide) dX7_takeGuest_10 rfl (Nat.le_of_ble_eq_true rfl) rfl (fun M10 P10 h10 => ?_)
  obtain ⟨rfl, rfl⟩ := h10
  refine G_al0 hC dX7_takeGuest_13 ?_
  refine G_getR hC fl_X7_15 (by first | assumption | rfl) (by omega) (by first | assumption | exact hGr _ _ _ rfl) dX7_takeGuest_14 ?_
  refine G_il1 hC dX7_takeGuest_17 ?_
  refine G_al2 hC dX7_takeGuest_18 ?_
  refine G_il3 hC dX7_takeGuest_19 ?_
  refine G_callVI hC (c_X7_wantsOf hGr ho hf) mv_X7_53 (by first | assumption | rfl) (by omega) (by decide) rfl (by decide) dX7_takeGuest_20 rfl (Nat.le_of_ble_eq_true rfl) rfl (fun z20 M20 P20 h20 => ?_)
  obtain ⟨rfl, rfl, rfl⟩ := h20
  refine G_callSV hC (c_putN hs2 (by omega) hg) ms_X7_49 (by decide) rfl (by decide) dX7_takeGuest_23 rfl (Nat.le_of_ble_eq_true rfl) rfl (fun M23 P23 h23 => ?_)
  obtain ⟨rfl, rfl⟩ := h23
  refine G_iconst hC dX7_takeGuest_26 ?_
  refine G_is4 hC dX7_takeGuest_27 rfl ?_
  exact hlp 6 0 rfl _ _ rfl (tgM_0 hto)
/-- the first g guests, and the numbers, of another table -/
def beM (M : Mem) (t o g : Nat) : Mem := fun a b => if a = t ∧ b < 6 then M o b else if a = t + 1 ∧ b < g then M (o + 1) b else if a = t + 2 ∧ b < g then M (o + 2) b else if a = t + 3 ∧ b < 6 * g then M (o + 3) b else M a b
theorem beM_0 {M : Mem} {t o : Nat} (hto : o + 3 < t ∨ t + 3 < o) : upM (upM (upM (upM (upM (upM M t 0 (M o 0)) t 1 (upM M t 0 (M o 0) o 1)) t 2 (upM (upM M t 0 (M o 0)) t 1 (upM M t 0 (M o 0) o 1) o 2)) t 3 (upM (upM (upM M t 0 (M o 0)) t 1 (upM M t 0 (M o 0) o 1)) t 2 (upM (upM M t 0 (M o 0)) t 1 (upM M t 0 (M o 0) o 1) o 2) o 3)) t 4 (upM (upM (upM (upM M t 0 (M o 0)) t 1 (upM M t 0 (M o 0) o 1)) t 2 (upM (upM M t 0 (M o 0)) t 1 (upM M t 0 (M o 0) o 1) o 2)) t 3 (upM (upM (upM M t 0 (M o 0)) t 1 (upM M t 0 (M o 0) o 1)) t 2 (upM (upM M t 0 (M o 0)) t 1 (upM M t 0 (M o 0) o 1) o 2) o 3) o 4)) t 5 (upM (upM (upM (upM (upM M t 0 (M o 0)) t 1 (upM M t 0 (M o 0) o 1)) t 2 (upM (upM M t 0 (M o 0)) t 1 (upM M t 0 (M o 0) o 1) o 2)) t 3 (upM (upM (upM M t 0 (M o 0)) t 1 (upM M t 0 (M o 0) o 1)) t 2 (upM (upM M t 0 (M o 0)) t 1 (upM M t 0 (M o 0) o 1) o 2) o 3)) t 4 (upM (upM (upM (upM M t 0 (M o 0)) t 1 (upM M t 0 (M o 0) o 1)) t 2 (upM (upM M t 0 (M o 0)) t 1 (upM M t 0 (M o 0) o 1) o 2)) t 3 (upM (upM (upM M t 0 (M o 0)) t 1 (upM M t 0 (M o 0) o 1)) t 2 (upM (upM M t 0 (M o 0)) t 1 (upM M t 0 (M o 0) o 1) o 2) o 3) o 4) o 5) = beM M t o 0 := by
  have hne : o ≠ t := by omega
  simp only [upM_ne hne]
  funext a b
  unfold beM
  by_cases h : a = t
  · subst h
    by_cases hb : b < 6
    · rw [if_pos ⟨rfl, hb⟩]
      rcases (show b = 0 ∨ b = 1 ∨ b = 2 ∨ b = 3 ∨ b = 4 ∨ b = 5 by omega) with rfl | rfl | rfl | rfl | rfl | rfl <;> simp [upM]
    · rw [if_neg (by omega), if_neg (by omega), if_neg (by omega), if_neg (by omega)]
      simp only [upM]
      rw [if_neg (by omega), if_neg (by omega), if_neg (by omega), if_neg (by omega), if_neg (by omega), if_neg (by omega)]
  · rw [if_neg (by omega), if_neg (by omega), if_neg (by omega), if_neg (by omega)]
    simp only [upM_ne h]
theorem beM_s {M : Mem} {t o g : Nat} (hto : o + 3 < t ∨ t + 3 < o) : tgM (beM M t o g) t g o g 6 = beM M t o (g + 1) := by
  funext a b
  unfold tgM beM
  by_cases h0 : a = t ∧ b < 6
  · rw [if_neg (by omega), if_neg (by omega), if_neg (by omega), if_pos h0, if_pos h0]
  · by_cases h1 : a = t + 1 ∧ b = g
    · rw [if_pos h1, if_neg (by omega), if_neg (by omega), if_neg (by omega), if_neg (by omega), if_neg h0, if_pos (by omega)]
      rw [h1.2]
    · rw [if_neg h1]
      by_cases h2 : a = t + 2 ∧ b = g
      · rw [if_pos h2, if_neg (by omega), if_neg (by omega), if_neg (by omega), if_neg (by omega), if_neg h0, if_neg (by omega), if_pos (by omega)]
        rw [h2.2]
      · rw [if_neg h2]
        by_cases h3 : a = t + 3 ∧ 6 * g ≤ b ∧ b < 6 * g + 6
        · rw [if_pos h3, if_neg (by omega), if_neg (by omega), if_neg (by omega), if_neg (by omega), if_neg h0, if_neg (by omega), if_neg (by omega), if_pos (by omega)]
          congr 1; omega
        · rw [if_neg h3, if_neg h0, if_neg h0]
          by_cases q1 : a = t + 1 ∧ b < g
          · rw [if_pos q1, if_pos (by omega)]
          · rw [if_neg q1, if_neg (show ¬ (a = t + 1 ∧ b < g + 1) by omega)]
            by_cases q2 : a = t + 2 ∧ b < g
            · rw [if_pos q2, if_pos (by omega)]
            · rw [if_neg q2, if_neg (show ¬ (a = t + 2 ∧ b < g + 1) by omega)]
              by_cases q3 : a = t + 3 ∧ b < 6 * g
              · rw [if_pos q3, if_pos (by omega)]
              · rw [if_neg q3, if_neg (by omega)]
set_option maxHeartbeats 4000000 in
set_option maxRecDepth 100000 in
theorem c_X7_become {l : Launch} {t o : Nat} {M : Mem} {P : PMem} (hGr : Gr P) (ht : isT t) (ho : isT o) (hto : o + 3 < t ∨ t + 3 < o) : CtV l yX7_become cX7_become 3 none 3 69 45 [vR t, vR o] M P (pV (beM M t o 6) P) := by
  refine Ct_of (own := RX7) (L := [vR t, vR o, vX 1]) (by decide) rfl rfl (Nat.le_of_ble_eq_true rfl) (fun X Y hl hC hQ => ?_)
  obtain ⟨hs0, hs1, hs2, hs3, hb3, hp6, hp7, hp8⟩ := isT_all hGr ht
  obtain ⟨ks0, ks1, ks2, ks3, kb3, kp6, kp7, kp8⟩ := isT_all hGr ho
  have hlp : ∀ n g : Nat, g + n = 6 → ∀ (gv : Int) (M1 : Mem), gv = (g : Int) → M1 = beM M t o g → G X Y 50 [vR t, vR o, vI gv] [] M1 P := by
    intro n
    induction n with
    | zero =>
      intro g hg gv M1 e1 e2
      subst e1; subst e2
      refine G_il2 hC dX7_become_50 ?_
      refine G_bipush hC dX7_become_51 (by decide) ?_
      refine G_icmp_ge (tgt := 69) hC dX7_become_53 (by decide) (by omega) (by omega) (fun c53 => ?_) (fun c53 => ?_)
      · exact G_vret hC hQ dX7_become_69 ⟨rfl, by rw [show g = 6 by omega], rfl⟩
      · exact absurd c53 (by omega)
    | succ n ih =>
      intro g hg gv M1 e1 e2
      subst e1; subst e2
      refine G_il2 hC dX7_become_50 ?_
      refine G_bipush hC dX7_become_51 (by decide) ?_
      refine G_icmp_ge (tgt := 69) hC dX7_become_53 (by decide) (by omega) (by omega) (fun c53 => ?_) (fun c53 => ?_)
      · exact absurd c53 (by omega)
      · refine G_al0 hC dX7_become_56 ?_
        refine G_il2 hC dX7_become_57 ?_
        refine G_al1 hC dX7_become_58 ?_
        refine G_il2 hC dX7_become_59 ?_
        refine G_callVV hC (c_X7_takeGuest hGr ht ho hto (by omega) (by omega)) mv_X7_41 (by first | assumption | rfl) (by omega) (by decide) rfl (by decide) dX7_become_60 rfl (Nat.le_of_ble_eq_true rfl) rfl (fun M60 P60 h60 => ?_)
        obtain ⟨rfl, rfl⟩ := h60
        refine G_inc2 hC dX7_become_63 rfl ?_
        refine G_goto (tgt := 50) hC dX7_become_66 (by decide) ?_
        exact ih (g + 1) (by omega) _ _ (by omega) (beM_s hto)
  refine G_al0 hC dX7_become_0 ?_
  refine G_al1 hC dX7_become_1 ?_
  refine G_getI hC fl_X7_21 (by first | assumption | rfl) (by omega) dX7_become_2 ?_
  refine G_putI hC fl_X7_21 (by first | assumption | rfl) (by omega) dX7_become_5 ?_
  refine G_al0 hC dX7_become_8 ?_
  refine G_al1 hC dX7_become_9 ?_
  refine G_getI hC fl_X7_25 (by first | assumption | rfl) (by omega) dX7_become_10 ?_
  refine G_putI hC fl_X7_25 (by first | assumption | rfl) (by omega) dX7_become_13 ?_
  refine G_al0 hC dX7_become_16 ?_
  refine G_al1 hC dX7_become_17 ?_
  refine G_getI hC fl_X7_28 (by first | assumption | rfl) (by omega) dX7_become_18 ?_
  refine G_putI hC fl_X7_28 (by first | assumption | rfl) (by omega) dX7_become_21 ?_
  refine G_al0 hC dX7_become_24 ?_
  refine G_al1 hC dX7_become_25 ?_
  refine G_getI hC fl_X7_31 (by first | assumption | rfl) (by omega) dX7_become_26 ?_
  refine G_putI hC fl_X7_31 (by first | assumption | rfl) (by omega) dX7_become_29 ?_
  refine G_al0 hC dX7_become_32 ?_
  refine G_al1 hC dX7_become_33 ?_
  refine G_getI hC fl_X7_34 (by first | assumption | rfl) (by omega) dX7_become_34 ?_
  refine G_putI hC fl_X7_34 (by first | assumption | rfl) (by omega) dX7_become_37 ?_
  refine G_al0 hC dX7_become_40 ?_
  refine G_al1 hC dX7_become_41 ?_
  refine G_getI hC fl_X7_38 (by first | assumption | rfl) (by omega) dX7_become_42 ?_
  refine G_putI hC fl_X7_38 (by first | assumption | rfl) (by omega) dX7_become_45 ?_
  refine G_iconst hC dX7_become_48 ?_
  refine G_is2 hC dX7_become_49 rfl ?_
  exact hlp 6 0 rfl _ _ rfl (beM_0 hto)
def agM (M : Mem) (t g : Nat) (kind wanted : Int) (n : Nat) : Mem := fun a b => if a = t + 1 ∧ b = g then kind else if a = t + 2 ∧ b = g then wanted else if a = t + 3 ∧ 6 * g ≤ b ∧ b < 6 * g + n then 1 else M a b
theorem agM_0 {M : Mem} {t g : Nat} {kind wanted : Int} : upM (upM M (t + 1) g kind) (t + 2) g wanted = agM M t g kind wanted 0 := by
  funext a b
  unfold agM
  simp only [upM]
  split
  · rename_i h
    rw [if_neg (by omega)]
  · split
    · rfl
    · rw [if_neg (by omega)]
theorem agM_s {M : Mem} {t g n : Nat} {kind wanted : Int} : upM (agM M t g kind wanted n) (t + 3) (6 * g + n) 1 = agM M t g kind wanted (n + 1) := by
  funext a b
  unfold agM
  simp only [upM]
  by_cases h : a = t + 3 ∧ b = 6 * g + n
  · rw [if_pos h, if_neg (by omega), if_neg (by omega), if_pos (by omega)]
  · rw [if_neg h]
    by_cases h1 : a = t + 1 ∧ b = g
    · rw [if_pos h1, if_pos h1]
    · rw [if_neg h1, if_neg h1]
      by_cases h2 : a = t + 2 ∧ b = g
      · rw [if_pos h2, if_pos h2]
      · rw [if_neg h2, if_neg h2]
        by_cases h3 : a = t + 3 ∧ 6 * g ≤ b ∧ b < 6 * g + n
        · rw [if_pos h3, if_pos (by omega)]
        · rw [if_neg h3, if_neg (by omega)]
theorem agM_t {M : Mem} {t g n j : Nat} {kind wanted : Int} : agM M t g kind wanted n t j = M t j := by
  unfold agM; rw [if_neg (by omega), if_neg (by omega), if_neg (by omega)]
set_option maxHeartbeats 4000000 in
set_option maxRecDepth 100000 in
theorem c_X7_addGuest {l : Launch} {t g dish : Nat} {kind wanted : Int} {f : Nat → Nat} {M : Mem} {P : PMem} (hGr : Gr P) (ht : isT t) (hgs : M t 0 = (g : Int)) (hg : g < 6) (hlf : M t 5 = (enc f : Int)) (hf : lo8 f) (hdd : dish < 8) : CtV l yX7_addGuest cX7_addGuest 5 none 2 45 45 [vR t, vI kind, vI dish, vI wanted] M P (pV (upM (upM (agM M t g kind wanted 6) t 5 (enc (ud f g dish))) t 0 (g + 1)) P) := by
  refine Ct_of (own := RX7) (L := [vR t, vI kind, vI dish, vI wanted, vX 1]) (by decide) rfl rfl (Nat.le_of_ble_eq_true rfl) (fun X Y hl hC hQ => ?_)
  obtain ⟨hs0, hs1, hs2, hs3, hb3, hp6, hp7, hp8⟩ := isT_all hGr ht
  have hlp : ∀ n d : Nat, d + n = 6 → ∀ (dv : Int) (M1 : Mem), dv = (d : Int) → M1 = agM M t g kind wanted d → G X Y 27 [vR t, vI kind, vI dish, vI wanted, vI dv] [] M1 P := by
    intro n
    induction n with
    | zero =>
      intro d hd dv M1 e1 e2
      subst e1; subst e2
      have hd6 : d = 6 := by omega
      subst hd6
      refine G_il4 hC dX7_addGuest_27 ?_
      refine G_bipush hC dX7_addGuest_29 (by decide) ?_
      refine G_icmp_ge (tgt := 51) hC dX7_addGuest_31 (by decide) (by omega) (by omega) (fun c31 => ?_) (fun c31 => ?_)
      · refine G_al0 hC dX7_addGuest_51 ?_
        refine G_al0 hC dX7_addGuest_52 ?_
        refine G_getI hC fl_X7_38 (by first | assumption | rfl) (by omega) dX7_addGuest_53 ?_
        refine G_al0 hC dX7_addGuest_56 ?_
        refine G_getI hC fl_X7_21 (by first | assumption | rfl) (by omega) dX7_addGuest_57 ?_
        refine G_il2 hC dX7_addGuest_60 ?_
        rw [agM_t, agM_t, hlf, hgs]
        refine G_callSI hC (c_X9_placed hf (by omega) hdd) ms_X7_64 (by decide) rfl (by decide) dX7_addGuest_61 rfl (Nat.le_of_ble_eq_true rfl) rfl (fun z61 M61 P61 h61 => ?_)
        obtain ⟨rfl, rfl, rfl⟩ := h61
        refine G_putI hC fl_X7_38 (by first | assumption | rfl) (by omega) dX7_addGuest_64 ?_
        refine G_al0 hC dX7_addGuest_67 ?_
        refine G_dup hC dX7_addGuest_68 rfl ?_
        refine G_getI hC fl_X7_21 (by first | assumption | rfl) (by omega) dX7_addGuest_69 ?_
        refine G_iconst hC dX7_addGuest_72 ?_
        refine G_iadd hC dX7_addGuest_73 ?_
        refine G_putI hC fl_X7_21 (by first | assumption | rfl) (by omega) dX7_addGuest_74 ?_
        exact G_vret hC hQ dX7_addGuest_77 ⟨rfl, by rw [upM_nej (show (0 : Nat) ≠ 5 by decide), agM_t, hgs], rfl⟩
      · exact absurd c31 (by omega)
    | succ n ih =>
      intro d hd dv M1 e1 e2
      subst e1; subst e2
      refine G_il4 hC dX7_addGuest_27 ?_
      refine G_bipush hC dX7_addGuest_29 (by decide) ?_
      refine G_icmp_ge (tgt := 51) hC dX7_addGuest_31 (by decide) (by omega) (by omega) (fun c31 => ?_) (fun c31 => ?_)
      · exact absurd c31 (by omega)
      · refine G_al0 hC dX7_addGuest_34 ?_
        refine G_al0 hC dX7_addGuest_35 ?_
        refine G_getI hC fl_X7_21 (by first | assumption | rfl) (by omega) dX7_addGuest_36 ?_
        refine G_il4 hC dX7_addGuest_39 ?_
        refine G_iconst hC dX7_addGuest_41 ?_
        rw [agM_t, hgs]
        refine G_callVV hC (c_X7_setWorth hGr ht hg (by omega)) mv_X7_60 (by first | assumption | rfl) (by omega) (by decide) rfl (by decide) dX7_addGuest_42 rfl (Nat.le_of_ble_eq_true rfl) rfl (fun M42 P42 h42 => ?_)
        obtain ⟨rfl, rfl⟩ := h42
        refine G_inc4 hC dX7_addGuest_45 rfl ?_
        refine G_goto (tgt := 27) hC dX7_addGuest_48 (by decide) ?_
        exact ih (d + 1) (by omega) _ _ (by omega) agM_s
  refine G_al0 hC dX7_addGuest_0 ?_
  refine G_getR hC fl_X7_9 (by first | assumption | rfl) (by omega) (by first | assumption | exact hGr _ _ _ rfl) dX7_addGuest_1 ?_
  refine G_al0 hC dX7_addGuest_4 ?_
  refine G_getI hC fl_X7_21 (by first | assumption | rfl) (by omega) dX7_addGuest_5 ?_
  refine G_il1 hC dX7_addGuest_8 ?_
  rw [hgs]
  refine G_callSV hC (c_putN hs1 (by omega) hg) ms_X7_49 (by decide) rfl (by decide) dX7_addGuest_9 rfl (Nat.le_of_ble_eq_true rfl) rfl (fun M9 P9 h9 => ?_)
  obtain ⟨rfl, rfl⟩ := h9
  refine G_al0 hC dX7_addGuest_12 ?_
  refine G_getR hC fl_X7_15 (by first | assumption | rfl) (by omega) (by first | assumption | exact hGr _ _ _ rfl) dX7_addGuest_13 ?_
  refine G_al0 hC dX7_addGuest_16 ?_
  refine G_getI hC fl_X7_21 (by first | assumption | rfl) (by omega) dX7_addGuest_17 ?_
  refine G_il3 hC dX7_addGuest_20 ?_
  rw [upM_ne (by omega), hgs]
  refine G_callSV hC (c_putN hs2 (by omega) hg) ms_X7_49 (by decide) rfl (by decide) dX7_addGuest_21 rfl (Nat.le_of_ble_eq_true rfl) rfl (fun M21 P21 h21 => ?_)
  obtain ⟨rfl, rfl⟩ := h21
  refine G_iconst hC dX7_addGuest_24 ?_
  refine G_is4 hC dX7_addGuest_25 rfl ?_
  exact hlp 6 0 rfl _ _ rfl agM_0
