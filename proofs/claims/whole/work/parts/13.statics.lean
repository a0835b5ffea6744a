theorem i32_Na (n : Nat) : Int32.ofInt (n : Int) = nI n := by
  apply Int32.toBitVec_inj.1
  show BitVec.ofInt 32 (n : Int) = BitVec.ofNat 32 n
  exact BitVec.ofInt_natCast 32 n
theorem bAnd_mask (a : Nat) : bAnd a 63 = ((a % 64 : Nat) : Int) := by
  unfold bAnd
  rw [i32_Na, show Int32.ofInt 63 = nI 63 from by decide, nx_and', show (63 : Nat) = 2 ^ 6 - 1 by rfl, Nat.and_two_pow_sub_one_eq_mod, nI_toInt (by omega)]
/-! six bits for each guest -/
def encK (h : Nat → Nat) : Nat → Nat
  | 0 => 0
  | k + 1 => encK h k + 2 ^ (6 * k) * h k
def encH (h : Nat → Nat) : Nat := encK h 6
def lo64 (h : Nat → Nat) : Prop := ∀ i, h i < 64
theorem p64 (k : Nat) : 2 ^ (6 * (k + 1)) = 2 ^ (6 * k) * 64 := by rw [show 6 * (k + 1) = 6 * k + 6 by omega, Nat.pow_add]
theorem encK_lt {h : Nat → Nat} (hh : lo64 h) : ∀ k, encK h k < 2 ^ (6 * k)
  | 0 => by simp [encK]
  | k + 1 => by
    have ih := encK_lt hh k
    have h1 := hh k
    have h2 : 2 ^ (6 * k) * h k ≤ 2 ^ (6 * k) * 63 := Nat.mul_le_mul_left _ (by omega)
    rw [p64]
    unfold encK
    omega
theorem p_le {k : Nat} (h : k ≤ 6) : 2 ^ (6 * k) ≤ 2 ^ 36 := Nat.pow_le_pow_right (by omega) (by omega)
theorem encH_lt {h : Nat → Nat} (hh : lo64 h) : encH h < 2 ^ 36 := encK_lt hh 6
theorem encK_or {h : Nat → Nat} (hh : lo64 h) {k : Nat} (hk : k < 6) : lOr (encK h k) (lShl (h k) (6 * k)) = ((encK h (k + 1) : Nat) : Int) := by
  have h1 := encK_lt hh k
  have h2 := hh k
  have h3 := p_le (k := k + 1) (by omega)
  have h5 : h k * 2 ^ (6 * k) ≤ 2 ^ (6 * k) * 63 := by rw [Nat.mul_comm]; exact Nat.mul_le_mul_left _ (by omega)
  rw [p64] at h3
  rw [show (6 * (k : Int)) = ((6 * k : Nat) : Int) by omega, lShl_n (by omega) (by omega), lOr_n (by omega) (by omega)]
  rw [show encK h k = 2 ^ (6 * k) * 0 + encK h k by omega, show h k * 2 ^ (6 * k) = 2 ^ (6 * k) * h k + 0 by rw [Nat.mul_comm]; rfl, sp_or h1 (Nat.two_pow_pos _)]
  rw [Nat.zero_or, Nat.or_zero]
  congr 1
  show _ = encK h k + _
  omega
theorem encK_dig {h : Nat → Nat} (hh : lo64 h) {g : Nat} : ∀ k, g < k → encK h k / 2 ^ (6 * g) % 64 = h g
  | 0, hg => by omega
  | k + 1, hg => by
    have h1 := encK_lt hh k
    have h2 := hh k
    by_cases e : g = k
    · subst e
      unfold encK
      rw [Nat.add_comm, Nat.mul_add_div (Nat.two_pow_pos _), Nat.div_eq_of_lt h1, Nat.add_zero, Nat.mod_eq_of_lt h2]
    · have ih := encK_dig hh k (by omega : g < k)
      unfold encK
      obtain ⟨m, hm⟩ : ∃ m, k = g + 1 + m := ⟨k - (g + 1), by omega⟩
      have e2 : 2 ^ (6 * k) * h k = 2 ^ (6 * g) * (64 * (2 ^ (6 * m) * h k)) := by
        rw [hm, show 6 * (g + 1 + m) = 6 * g + 6 + 6 * m by omega, Nat.pow_add, Nat.pow_add]
        simp only [Nat.mul_assoc]
      rw [e2, Nat.add_comm, Nat.mul_add_div (Nat.two_pow_pos _), Nat.mul_add_mod]
      exact ih
/-- bitsOf -/
theorem m_bits {h : Nat → Nat} (hh : lo64 h) {g : Nat} (hg : g < 6) : bAnd (lShr (encH h) (6 * g)) 63 = ((h g : Nat) : Int) := by
  have h1 := encH_lt hh
  rw [show (6 * (g : Int)) = ((6 * g : Nat) : Int) by omega, lShr_n (by omega) (by omega), bAnd_mask]
  rw [show encH h = encK h 6 from rfl, encK_dig hh 6 hg]
set_option maxHeartbeats 4000000 in
set_option maxRecDepth 100000 in
theorem c_X9_shifted {l : Launch} {b g : Nat} {M : Mem} {P : PMem} (hb : b < 2147483648) : CtL l yX9_shifted cX9_shifted 2 (some .long) 0 0 0 [vI b, vI g] M P (pI (lShl b (6 * g)) M P) := by
  refine Ct_of (own := RX9) (L := [vI b, vI g]) (by decide) rfl rfl (Nat.le_of_ble_eq_true rfl) (fun X Y hl hC hQ => ?_)
  refine G_il0 hC dX9_shifted_0 ?_
  refine G_i2l hC dX9_shifted_1 (by omega) ?_
  refine G_bipush hC dX9_shifted_2 (by decide) ?_
  refine G_il1 hC dX9_shifted_4 ?_
  refine G_imul hC dX9_shifted_5 ?_
  refine G_lshl hC dX9_shifted_6 ?_
  exact G_lret hC hQ dX9_shifted_7 ⟨_, rfl, rfl, rfl, rfl⟩
set_option maxHeartbeats 4000000 in
set_option maxRecDepth 100000 in
theorem c_X9_bitsOf {l : Launch} {h : Nat → Nat} {g : Nat} {M : Mem} {P : PMem} (hh : lo64 h) (hg : g < 6) : CtI l yX9_bitsOf cX9_bitsOf 3 (some .int) 0 0 0 [vL (encH h), vI g] M P (pI (h g) M P) := by
  refine Ct_of (own := RX9) (L := [vL (encH h), vX 1, vI g]) (by decide) rfl rfl (Nat.le_of_ble_eq_true rfl) (fun X Y hl hC hQ => ?_)
  refine G_ll0 hC dX9_bitsOf_0 ?_
  refine G_bipush hC dX9_bitsOf_1 (by decide) ?_
  refine G_il2 hC dX9_bitsOf_3 ?_
  refine G_imul hC dX9_bitsOf_4 ?_
  refine G_lshr hC dX9_bitsOf_5 ?_
  refine G_l2i hC dX9_bitsOf_6 ?_
  refine G_bipush hC dX9_bitsOf_7 (by decide) ?_
  refine G_iand hC dX9_bitsOf_9 ?_
  exact G_iret hC hQ dX9_bitsOf_10 ⟨_, rfl, (m_bits hh hg).symm, rfl, rfl⟩
/-- a lie of dishes below 6 -/
def lieOK (f : Nat → Nat) : Prop := ∀ i, f i < 6 ∨ f i = 7
theorem lieOK.lo {f : Nat → Nat} (h : lieOK f) : lo8 f := fun i => by rcases h i with q | q <;> omega
def hbit (f : Nat → Nat) (s : Nat) : Nat := if f s = 7 then 0 else 2 ^ f s
theorem hbit_lo {f : Nat → Nat} (h : lieOK f) : lo64 (hbit f) := by
  intro i
  unfold hbit
  split
  · omega
  · rcases h i with q | q
    · exact Nat.lt_of_lt_of_le (Nat.pow_lt_pow_right (by omega) q) (by decide)
    · omega
set_option maxHeartbeats 4000000 in
set_option maxRecDepth 100000 in
theorem c_X9_pairsOf {l : Launch} {f : Nat → Nat} {M : Mem} {P : PMem} (hf : lieOK f) : CtL l yX9_pairsOf cX9_pairsOf 5 (some .long) 1 21 0 [vI (enc f)] M P (pI (encH (hbit f)) M P) := by
  refine Ct_of (own := RX9) (L := [vI (enc f), vX 1, vX 1, vX 1, vX 1]) (by decide) rfl rfl (Nat.le_of_ble_eq_true rfl) (fun X Y hl hC hQ => ?_)
  have hlo := hf.lo
  have hhb := hbit_lo hf
  have hlp : ∀ n s : Nat, s + n = 6 → ∀ (sv pv : Int) (x4 : AV), sv = (s : Int) → pv = (encK (hbit f) s : Int) → G X Y 4 [vI (enc f), vL pv, vX 1, vI sv, x4] [] M P := by
    intro n
    induction n with
    | zero =>
      intro s hs sv pv x4 e1 e2
      subst e1; subst e2
      refine G_il3 hC dX9_pairsOf_4 ?_
      refine G_bipush hC dX9_pairsOf_5 (by decide) ?_
      refine G_icmp_ge (tgt := 41) hC dX9_pairsOf_7 (by decide) (by omega) (by omega) (fun c7 => ?_) (fun c7 => ?_)
      · refine G_ll1 hC dX9_pairsOf_41 ?_
        exact G_lret hC hQ dX9_pairsOf_42 ⟨_, rfl, by rw [show s = 6 by omega]; rfl, rfl, rfl⟩
      · exact absurd c7 (by omega)
    | succ n ih =>
      intro s hs sv pv x4 e1 e2
      subst e1; subst e2
      have hfs := hf s
      refine G_il3 hC dX9_pairsOf_4 ?_
      refine G_bipush hC dX9_pairsOf_5 (by decide) ?_
      refine G_icmp_ge (tgt := 41) hC dX9_pairsOf_7 (by decide) (by omega) (by omega) (fun c7 => ?_) (fun c7 => ?_)
      · exact absurd c7 (by omega)
      · refine G_il0 hC dX9_pairsOf_10 ?_
        refine G_il3 hC dX9_pairsOf_11 ?_
        refine G_callSI hC (c_X9_before hlo (by omega)) ms_X9_280 (by decide) rfl (by decide) dX9_pairsOf_12 rfl (Nat.le_of_ble_eq_true rfl) rfl (fun z12 M12 P12 h12 => ?_)
        obtain ⟨rfl, rfl, rfl⟩ := h12
        refine G_is4 hC dX9_pairsOf_15 rfl ?_
        refine G_il4 hC dX9_pairsOf_17 ?_
        refine G_bipush hC dX9_pairsOf_19 (by decide) ?_
        refine G_icmp_eq (tgt := 35) hC dX9_pairsOf_21 (by decide) (by omega) (by omega) (fun c21 => ?_) (fun c21 => ?_)
        · refine G_inc3 hC dX9_pairsOf_35 rfl ?_
          refine G_goto (tgt := 4) hC dX9_pairsOf_38 (by decide) ?_
          exact ih (s + 1) (by omega) _ _ _ (by omega) (by show (encK (hbit f) s : Int) = ((encK (hbit f) s + 2 ^ (6 * s) * hbit f s : Nat) : Int); rw [show hbit f s = 0 by unfold hbit; rw [if_pos (by omega)]]; simp)
        · refine G_ll1 hC dX9_pairsOf_24 ?_
          refine G_iconst hC dX9_pairsOf_25 ?_
          refine G_il4 hC dX9_pairsOf_26 ?_
          refine G_ishl hC dX9_pairsOf_28 ?_
          refine G_il3 hC dX9_pairsOf_29 ?_
          rw [m_one (f s) (by omega)]
          refine G_callSL hC (c_X9_shifted (by have : 2 ^ f s < 2 ^ 6 := Nat.pow_lt_pow_right (by omega) (by omega); omega)) ms_X9_220 (by decide) rfl (by decide) dX9_pairsOf_30 rfl (Nat.le_of_ble_eq_true rfl) rfl (fun z30 M30 P30 h30 => ?_)
          obtain ⟨rfl, rfl, rfl⟩ := h30
          refine G_lor hC dX9_pairsOf_33 ?_
          refine G_ls1 hC dX9_pairsOf_34 rfl ?_
          refine G_inc3 hC dX9_pairsOf_35 rfl ?_
          refine G_goto (tgt := 4) hC dX9_pairsOf_38 (by decide) ?_
          exact ih (s + 1) (by omega) _ _ _ (by omega) (by rw [← encK_or hhb (by omega)]; congr 2; unfold hbit; rw [if_neg (by omega)])
  refine G_lconst (z := 0) hC dX9_pairsOf_0 (by decide) ?_
  refine G_ls1 hC dX9_pairsOf_1 rfl ?_
  refine G_iconst hC dX9_pairsOf_2 ?_
  refine G_is3 hC dX9_pairsOf_3 rfl ?_
  exact hlp 6 0 rfl _ _ _ rfl rfl
def drw (z k : Nat) : Nat := (7919 * z + 6151 * k + 1) * (7919 * z + 6151 * k + 1) % 65521
set_option maxHeartbeats 4000000 in
set_option maxRecDepth 100000 in
theorem c_X9_drawOf {l : Launch} {z k : Nat} {M : Mem} {P : PMem} (hz : z ≤ 9999) (hk : k ≤ 60) : CtI l yX9_drawOf cX9_drawOf 4 (some .int) 0 0 0 [vI z, vI k] M P (pI (drw z k) M P) := by
  refine Ct_of (own := RX9) (L := [vI z, vI k, vX 1, vX 1]) (by decide) rfl rfl (Nat.le_of_ble_eq_true rfl) (fun X Y hl hC hQ => ?_)
  have hx : 7919 * z + 6151 * k + 1 ≤ 100000000 := by omega
  have hxx : (7919 * z + 6151 * k + 1) * (7919 * z + 6151 * k + 1) ≤ 100000000 * 100000000 := Nat.mul_le_mul hx hx
  have e : ((7919 : Int) * z + 6151 * k + 1) * (7919 * z + 6151 * k + 1) = (((7919 * z + 6151 * k + 1) * (7919 * z + 6151 * k + 1) : Nat) : Int) := by simp
  refine G_ldc2 (z := 7919) hC kl_X9_283 (by decide) dX9_drawOf_0 ?_
  refine G_il0 hC dX9_drawOf_3 ?_
  refine G_i2l hC dX9_drawOf_4 (by omega) ?_
  refine G_lmul hC dX9_drawOf_5 ?_
  refine G_ldc2 (z := 6151) hC kl_X9_285 (by decide) dX9_drawOf_6 ?_
  refine G_il1 hC dX9_drawOf_9 ?_
  refine G_i2l hC dX9_drawOf_10 (by omega) ?_
  refine G_lmul hC dX9_drawOf_11 ?_
  refine G_ladd hC dX9_drawOf_12 ?_
  refine G_lconst (z := 1) hC dX9_drawOf_13 (by decide) ?_
  refine G_ladd hC dX9_drawOf_14 ?_
  refine G_ls2 hC dX9_drawOf_15 rfl ?_
  refine G_ll2 hC dX9_drawOf_16 ?_
  refine G_ll2 hC dX9_drawOf_17 ?_
  refine G_lmul hC dX9_drawOf_18 ?_
  refine G_ldc2 (z := 65521) hC kl_X9_287 (by decide) dX9_drawOf_19 ?_
  refine G_lrem hC dX9_drawOf_22 (by rw [e]; omega) (by omega) ?_
  refine G_l2i hC dX9_drawOf_23 ?_
  exact G_iret hC hQ dX9_drawOf_24 ⟨_, rfl, by rw [e]; rfl, rfl, rfl⟩
def flM (M : Mem) (k : Nat) (v : Int) (n : Nat) : Mem := fun a b => if a = k ∧ b < n then v else M a b
theorem flM_0 {M : Mem} {k : Nat} {v : Int} : M = flM M k v 0 := by funext a b; unfold flM; rw [if_neg (by omega)]
theorem flM_s {M : Mem} {k n : Nat} {v : Int} : upM (flM M k v n) k n v = flM M k v (n + 1) := by
  funext a b
  unfold flM
  simp only [upM]
  by_cases h : a = k ∧ b = n
  · rw [if_pos h, if_pos (by omega)]
  · rw [if_neg h]
    by_cases h1 : a = k ∧ b < n
    · rw [if_pos h1, if_pos (by omega)]
    · rw [if_neg h1, if_neg (by omega)]
set_option maxHeartbeats 4000000 in
set_option maxRecDepth 100000 in
theorem c_fillI {l : Launch} {k z : Nat} {v : Int} {M : Mem} {P : PMem} (hs : shp k = (11, z)) (hk : k < 45) : CtV l yJ7_fill_53178 cJ7_fill_53178 4 none 0 0 45 [vR k, vI v] M P (pV (flM M k v z) P) := by
  refine Ct_of (own := RJ7) (L := [vR k, vI v, vX 1, vX 1]) (by decide) rfl rfl (Nat.le_of_ble_eq_true rfl) (fun X Y hl hC hQ => ?_)
  have hz := shp_lt hs
  have hlp : ∀ n i : Nat, i + n = z → ∀ (iv : Int) (M1 : Mem), iv = (i : Int) → M1 = flM M k v i → G X Y 5 [vR k, vI v, vI iv, vI z] [] M1 P := by
    intro n
    induction n with
    | zero =>
      intro i hi iv M1 e1 e2
      subst e1; subst e2
      refine G_il2 hC dJ7_fill_53178_5 ?_
      refine G_il3 hC dJ7_fill_53178_6 ?_
      refine G_icmp_ge (tgt := 20) hC dJ7_fill_53178_7 (by decide) (by omega) (by omega) (fun c7 => ?_) (fun c7 => ?_)
      · exact G_vret hC hQ dJ7_fill_53178_20 ⟨rfl, by rw [show i = z by omega], rfl⟩
      · exact absurd c7 (by omega)
    | succ n ih =>
      intro i hi iv M1 e1 e2
      subst e1; subst e2
      refine G_il2 hC dJ7_fill_53178_5 ?_
      refine G_il3 hC dJ7_fill_53178_6 ?_
      refine G_icmp_ge (tgt := 20) hC dJ7_fill_53178_7 (by decide) (by omega) (by omega) (fun c7 => ?_) (fun c7 => ?_)
      · exact absurd c7 (by omega)
      · refine G_al0 hC dJ7_fill_53178_10 ?_
        refine G_il2 hC dJ7_fill_53178_11 ?_
        refine G_il1 hC dJ7_fill_53178_12 ?_
        refine G_iastore hC (by first | assumption | rfl) (by omega) (by omega) dJ7_fill_53178_13 ?_
        refine G_inc2 hC dJ7_fill_53178_14 rfl ?_
        refine G_goto (tgt := 5) hC dJ7_fill_53178_17 (by decide) ?_
        exact ih (i + 1) (by omega) _ _ (by omega) flM_s
  refine G_iconst hC dJ7_fill_53178_0 ?_
  refine G_is2 hC dJ7_fill_53178_1 rfl ?_
  refine G_al0 hC dJ7_fill_53178_2 ?_
  refine G_alen hC (by first | assumption | rfl) (by decide) (by omega) dJ7_fill_53178_3 ?_
  refine G_is3 hC dJ7_fill_53178_4 rfl ?_
  exact hlp z 0 (by omega) _ _ rfl flM_0
set_option maxHeartbeats 4000000 in
set_option maxRecDepth 100000 in
theorem c_fillL {l : Launch} {k z : Nat} {v : Int} {M : Mem} {P : PMem} (hs : shp k = (12, z)) (hk : k < 45) : CtV l yJ7_fill_d0a16 cJ7_fill_d0a16 5 none 0 0 45 [vR k, vL v] M P (pV (flM M k v z) P) := by
  refine Ct_of (own := RJ7) (L := [vR k, vL v, vX 1, vX 1, vX 1]) (by decide) rfl rfl (Nat.le_of_ble_eq_true rfl) (fun X Y hl hC hQ => ?_)
  have hz := shp_lt hs
  have hlp : ∀ n i : Nat, i + n = z → ∀ (iv : Int) (M1 : Mem), iv = (i : Int) → M1 = flM M k v i → G X Y 6 [vR k, vL v, vX 1, vI iv, vI z] [] M1 P := by
    intro n
    induction n with
    | zero =>
      intro i hi iv M1 e1 e2
      subst e1; subst e2
      refine G_il3 hC dJ7_fill_d0a16_6 ?_
      refine G_il4 hC dJ7_fill_d0a16_7 ?_
      refine G_icmp_ge (tgt := 22) hC dJ7_fill_d0a16_9 (by decide) (by omega) (by omega) (fun c9 => ?_) (fun c9 => ?_)
      · exact G_vret hC hQ dJ7_fill_d0a16_22 ⟨rfl, by rw [show i = z by omega], rfl⟩
      · exact absurd c9 (by omega)
    | succ n ih =>
      intro i hi iv M1 e1 e2
      subst e1; subst e2
      refine G_il3 hC dJ7_fill_d0a16_6 ?_
      refine G_il4 hC dJ7_fill_d0a16_7 ?_
      refine G_icmp_ge (tgt := 22) hC dJ7_fill_d0a16_9 (by decide) (by omega) (by omega) (fun c9 => ?_) (fun c9 => ?_)
      · exact absurd c9 (by omega)
      · refine G_al0 hC dJ7_fill_d0a16_12 ?_
        refine G_il3 hC dJ7_fill_d0a16_13 ?_
        refine G_ll1 hC dJ7_fill_d0a16_14 ?_
        refine G_lastore hC (by first | assumption | rfl) (by omega) (by omega) dJ7_fill_d0a16_15 ?_
        refine G_inc3 hC dJ7_fill_d0a16_16 rfl ?_
        refine G_goto (tgt := 6) hC dJ7_fill_d0a16_19 (by decide) ?_
        exact ih (i + 1) (by omega) _ _ (by omega) flM_s
  refine G_iconst hC dJ7_fill_d0a16_0 ?_
  refine G_is3 hC dJ7_fill_d0a16_1 rfl ?_
  refine G_al0 hC dJ7_fill_d0a16_2 ?_
  refine G_alen hC (by first | assumption | rfl) (by decide) (by omega) dJ7_fill_d0a16_3 ?_
  refine G_is4 hC dJ7_fill_d0a16_4 rfl ?_
  exact hlp z 0 (by omega) _ _ rfl flM_0
