set_option maxHeartbeats 4000000 in
set_option maxRecDepth 100000 in
theorem c_X9_before {l : Launch} {f : Nat → Nat} {i : Nat} {M : Mem} {P : PMem} (h : lo8 f) (hi : i < 6) : CtI l yX9_before cX9_before 2 (some .int) 0 0 0 [vI (enc f), vI i] M P (pI (f i) M P) := by
  refine Ct_of (own := RX9) (L := [vI (enc f), vI i]) (by decide) rfl rfl (Nat.le_of_ble_eq_true rfl) (fun X Y hl hC hQ => ?_)
  refine G_il0 hC dX9_before_0 ?_
  refine G_iconst hC dX9_before_1 ?_
  refine G_il1 hC dX9_before_2 ?_
  refine G_imul hC dX9_before_3 ?_
  refine G_ishr hC dX9_before_4 ?_
  refine G_bipush hC dX9_before_5 (by decide) ?_
  refine G_iand hC dX9_before_7 ?_
  exact G_iret hC hQ dX9_before_8 ⟨_, rfl, (m_before h hi).symm, rfl, rfl⟩
set_option maxHeartbeats 4000000 in
set_option maxRecDepth 100000 in
theorem c_X9_placed {l : Launch} {f : Nat → Nat} {i d : Nat} {M : Mem} {P : PMem} (h : lo8 f) (hi : i < 6) (hd : d < 8) : CtI l yX9_placed cX9_placed 4 (some .int) 0 0 0 [vI (enc f), vI i, vI d] M P (pI (enc (ud f i d)) M P) := by
  refine Ct_of (own := RX9) (L := [vI (enc f), vI i, vI d, vX 1]) (by decide) rfl rfl (Nat.le_of_ble_eq_true rfl) (fun X Y hl hC hQ => ?_)
  refine G_iconst hC dX9_placed_0 ?_
  refine G_il1 hC dX9_placed_1 ?_
  refine G_imul hC dX9_placed_2 ?_
  refine G_is3 hC dX9_placed_3 rfl ?_
  refine G_il0 hC dX9_placed_4 ?_
  refine G_bipush hC dX9_placed_5 (by decide) ?_
  refine G_il3 hC dX9_placed_7 ?_
  refine G_ishl hC dX9_placed_8 ?_
  refine G_iconst hC dX9_placed_9 ?_
  refine G_ixor hC dX9_placed_10 ?_
  refine G_iand hC dX9_placed_11 ?_
  refine G_il2 hC dX9_placed_12 ?_
  refine G_il3 hC dX9_placed_13 ?_
  refine G_ishl hC dX9_placed_14 ?_
  refine G_ior hC dX9_placed_15 ?_
  exact G_iret hC hQ dX9_placed_16 ⟨_, rfl, (m_placed h hi hd).symm, rfl, rfl⟩
set_option maxHeartbeats 4000000 in
set_option maxRecDepth 100000 in
theorem c_X9_changed {l : Launch} {f : Nat → Nat} {i j : Nat} {M : Mem} {P : PMem} (h : lo8 f) (hi : i < 6) (hj : j < 6) (hij : i ≠ j) : CtI l yX9_changed cX9_changed 4 (some .int) 0 0 0 [vI (enc f), vI i, vI j] M P (pI (enc (sw f i j)) M P) := by
  refine Ct_of (own := RX9) (L := [vI (enc f), vI i, vI j, vX 1]) (by decide) rfl rfl (Nat.le_of_ble_eq_true rfl) (fun X Y hl hC hQ => ?_)
  refine G_il0 hC dX9_changed_0 ?_
  refine G_iconst hC dX9_changed_1 ?_
  refine G_il1 hC dX9_changed_2 ?_
  refine G_imul hC dX9_changed_3 ?_
  refine G_ishr hC dX9_changed_4 ?_
  refine G_il0 hC dX9_changed_5 ?_
  refine G_iconst hC dX9_changed_6 ?_
  refine G_il2 hC dX9_changed_7 ?_
  refine G_imul hC dX9_changed_8 ?_
  refine G_ishr hC dX9_changed_9 ?_
  refine G_ixor hC dX9_changed_10 ?_
  refine G_bipush hC dX9_changed_11 (by decide) ?_
  refine G_iand hC dX9_changed_13 ?_
  refine G_is3 hC dX9_changed_14 rfl ?_
  refine G_il0 hC dX9_changed_15 ?_
  refine G_il3 hC dX9_changed_16 ?_
  refine G_iconst hC dX9_changed_17 ?_
  refine G_il1 hC dX9_changed_18 ?_
  refine G_imul hC dX9_changed_19 ?_
  refine G_ishl hC dX9_changed_20 ?_
  refine G_ixor hC dX9_changed_21 ?_
  refine G_il3 hC dX9_changed_22 ?_
  refine G_iconst hC dX9_changed_23 ?_
  refine G_il2 hC dX9_changed_24 ?_
  refine G_imul hC dX9_changed_25 ?_
  refine G_ishl hC dX9_changed_26 ?_
  refine G_ixor hC dX9_changed_27 ?_
  exact G_iret hC hQ dX9_changed_28 ⟨_, rfl, (m_changed h hi hj hij).symm, rfl, rfl⟩
def atV (M : Mem) (k z : Nat) (i : Int) : Int := if 0 ≤ i ∧ i < z then M k i.toNat else 0
set_option maxHeartbeats 4000000 in
set_option maxRecDepth 100000 in
theorem c_X9_at {l : Launch} {k z : Nat} {i : Int} {M : Mem} {P : PMem} (hs : shp k = (11, z)) (hk : k < 45) (hi : -2147483648 ≤ i ∧ i ≤ 2147483647) : CtI l yX9_at cX9_at 2 (some .int) 0 0 45 [vR k, vI i] M P (pI (atV M k z i) M P) := by
  refine Ct_of (own := RX9) (L := [vR k, vI i]) (by decide) rfl rfl (Nat.le_of_ble_eq_true rfl) (fun X Y hl hC hQ => ?_)
  have hz := shp_lt hs
  refine G_il1 hC dX9_at_0 ?_
  refine G_if_lt (tgt := 16) hC dX9_at_1 (by decide) (by omega) (fun c1 => ?_) (fun c1 => ?_)
  · refine G_iconst hC dX9_at_16 ?_
    exact G_iret hC hQ dX9_at_17 ⟨_, rfl, by unfold atV; first | (rw [if_pos (by omega)]; done) | (rw [if_neg (by omega)]; done), rfl, rfl⟩
  · refine G_il1 hC dX9_at_4 ?_
    refine G_al0 hC dX9_at_5 ?_
    refine G_alen hC (by first | assumption | rfl) (by decide) (by omega) dX9_at_6 ?_
    refine G_icmp_ge (tgt := 16) hC dX9_at_7 (by decide) (by omega) (by omega) (fun c7 => ?_) (fun c7 => ?_)
    · refine G_iconst hC dX9_at_16 ?_
      exact G_iret hC hQ dX9_at_17 ⟨_, rfl, by unfold atV; first | (rw [if_pos (by omega)]; done) | (rw [if_neg (by omega)]; done), rfl, rfl⟩
    · refine G_al0 hC dX9_at_10 ?_
      refine G_il1 hC dX9_at_11 ?_
      refine G_iaload hC (by first | assumption | rfl) (by omega) (by omega) dX9_at_12 ?_
      refine G_goto (tgt := 17) hC dX9_at_13 (by decide) ?_
      exact G_iret hC hQ dX9_at_17 ⟨_, rfl, by unfold atV; first | (rw [if_pos (by omega)]; done) | (rw [if_neg (by omega)]; done), rfl, rfl⟩
def putM (M : Mem) (k z : Nat) (i v : Int) : Mem := if 0 ≤ i ∧ i < z then upM M k i.toNat v else M
set_option maxHeartbeats 4000000 in
set_option maxRecDepth 100000 in
theorem c_X9_put {l : Launch} {k z : Nat} {i v : Int} {M : Mem} {P : PMem} (hs : shp k = (11, z)) (hk : k < 45) (hi : -2147483648 ≤ i ∧ i ≤ 2147483647) : CtV l yX9_put cX9_put 3 none 0 0 45 [vR k, vI i, vI v] M P (pV (putM M k z i v) P) := by
  refine Ct_of (own := RX9) (L := [vR k, vI i, vI v]) (by decide) rfl rfl (Nat.le_of_ble_eq_true rfl) (fun X Y hl hC hQ => ?_)
  have hz := shp_lt hs
  refine G_il1 hC dX9_put_0 ?_
  refine G_if_lt (tgt := 14) hC dX9_put_1 (by decide) (by omega) (fun c1 => ?_) (fun c1 => ?_)
  · exact G_vret hC hQ dX9_put_14 ⟨rfl, by unfold putM; first | (rw [if_pos (by omega)]; done) | (rw [if_neg (by omega)]; done), rfl⟩
  · refine G_il1 hC dX9_put_4 ?_
    refine G_al0 hC dX9_put_5 ?_
    refine G_alen hC (by first | assumption | rfl) (by decide) (by omega) dX9_put_6 ?_
    refine G_icmp_ge (tgt := 14) hC dX9_put_7 (by decide) (by omega) (by omega) (fun c7 => ?_) (fun c7 => ?_)
    · exact G_vret hC hQ dX9_put_14 ⟨rfl, by unfold putM; first | (rw [if_pos (by omega)]; done) | (rw [if_neg (by omega)]; done), rfl⟩
    · refine G_al0 hC dX9_put_10 ?_
      refine G_il1 hC dX9_put_11 ?_
      refine G_il2 hC dX9_put_12 ?_
      refine G_iastore hC (by first | assumption | rfl) (by omega) (by omega) dX9_put_13 ?_
      exact G_vret hC hQ dX9_put_14 ⟨rfl, by unfold putM; first | (rw [if_pos (by omega)]; done) | (rw [if_neg (by omega)]; done), rfl⟩
def sFrom (f : Nat → Nat) (d : Int) : Nat → Nat → Int
  | 0, _ => -1
  | n + 1, s => if (f s : Int) = d then (s : Int) else sFrom f d n (s + 1)
set_option maxHeartbeats 4000000 in
set_option maxRecDepth 100000 in
theorem c_X9_seatOf {l : Launch} {f : Nat → Nat} {d : Int} {M : Mem} {P : PMem} (h : lo8 f) (hd : -2147483648 ≤ d ∧ d ≤ 2147483647) : CtI l yX9_seatOf cX9_seatOf 3 (some .int) 1 21 0 [vI (enc f), vI d] M P (pI (sFrom f d 6 0) M P) := by
  refine Ct_of (own := RX9) (L := [vI (enc f), vI d, vX 1]) (by decide) rfl rfl (Nat.le_of_ble_eq_true rfl) (fun X Y hl hC hQ => ?_)
  have hl : ∀ n s : Nat, s + n = 6 → ∀ v, sFrom f d 6 0 = sFrom f d n s → v = (s : Int) → G X Y 2 [vI (enc f), vI d, vI v] [] M P := by
    intro n
    induction n with
    | zero =>
      intro s hs v e ev
      subst ev
      refine G_il2 hC dX9_seatOf_2 ?_
      refine G_bipush hC dX9_seatOf_3 (by decide) ?_
      refine G_icmp_ge (tgt := 25) hC dX9_seatOf_5 (by decide) (by omega) (by omega) (fun c5 => ?_) (fun c5 => ?_)
      · refine G_iconst hC dX9_seatOf_25 ?_
        exact G_iret hC hQ dX9_seatOf_26 ⟨_, rfl, e, rfl, rfl⟩
      · exact absurd c5 (by omega)
    | succ n ih =>
      intro s hs v e ev
      subst ev
      refine G_il2 hC dX9_seatOf_2 ?_
      refine G_bipush hC dX9_seatOf_3 (by decide) ?_
      refine G_icmp_ge (tgt := 25) hC dX9_seatOf_5 (by decide) (by omega) (by omega) (fun c5 => ?_) (fun c5 => ?_)
      · exact absurd c5 (by omega)
      · refine G_il0 hC dX9_seatOf_8 ?_
        refine G_il2 hC dX9_seatOf_9 ?_
        refine G_callSI hC (c_X9_before h (by omega)) ms_X9_280 (by decide) rfl (by decide) dX9_seatOf_10 rfl (Nat.le_of_ble_eq_true rfl) rfl (fun z10 M10 P10 h10 => ?_)
        obtain ⟨rfl, rfl, rfl⟩ := h10
        refine G_il1 hC dX9_seatOf_13 ?_
        refine G_icmp_ne (tgt := 19) hC dX9_seatOf_14 (by decide) (by have := h s; omega) hd (fun c14 => ?_) (fun c14 => ?_)
        · refine G_inc2 hC dX9_seatOf_19 rfl ?_
          refine G_goto (tgt := 2) hC dX9_seatOf_22 (by decide) ?_
          exact ih (s + 1) (by omega) _ (by rw [e, sFrom, if_neg c14]) (by omega)
        · refine G_il2 hC dX9_seatOf_17 ?_
          exact G_iret hC hQ dX9_seatOf_18 ⟨_, rfl, by rw [e, sFrom, if_pos c14], rfl, rfl⟩
  refine G_iconst hC dX9_seatOf_0 ?_
  refine G_is2 hC dX9_seatOf_1 rfl ?_
  exact hl 6 0 rfl _ rfl rfl
