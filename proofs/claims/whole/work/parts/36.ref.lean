/-! the reference -/
section LAYN
variable {X : CX} {Y : CY} {cc : ByteArray} {own : String} {nL : Nat} {rt : Option FieldType} {fr lo nm : Nat} {pc : Nat} {L st : List AV} {M : Mem} {P : PMem}
theorem G_ialoadN {k z n : Nat} {i : Int} (hC : OK X Y cc own nL rt fr lo nm) (hs : shp k = (11, z)) (hk : k < nm) (hi : i = (n : Int)) (hn : n < z) (d : decode cc pc = .ok (.iaload, 1)) (kk : G X Y (pc + 1) L (vI (M k n) :: st) M P) : G X Y pc L (vI i :: vR k :: st) M P := by
  subst hi
  exact G_iaload hC hs hk (by omega) d (by rw [Int.toNat_natCast]; exact kk)
theorem G_laloadN {k z n : Nat} {i : Int} (hC : OK X Y cc own nL rt fr lo nm) (hs : shp k = (12, z)) (hk : k < nm) (hi : i = (n : Int)) (hn : n < z) (d : decode cc pc = .ok (.laload, 1)) (kk : G X Y (pc + 1) L (vL (M k n) :: st) M P) : G X Y pc L (vI i :: vR k :: st) M P := by
  subst hi
  exact G_laload hC hs hk (by omega) d (by rw [Int.toNat_natCast]; exact kk)
theorem G_zaloadN {k z n : Nat} {i : Int} (hC : OK X Y cc own nL rt fr lo nm) (hs : shp k = (13, z)) (hk : k < nm) (hi : i = (n : Int)) (hn : n < z) (d : decode cc pc = .ok (.baload, 1)) (kk : G X Y (pc + 1) L (vI (M k n) :: st) M P) : G X Y pc L (vI i :: vR k :: st) M P := by
  subst hi
  exact G_zaload hC hs hk (by omega) d (by rw [Int.toNat_natCast]; exact kk)
theorem G_iastoreN {k z n : Nat} {i v : Int} (hC : OK X Y cc own nL rt fr lo nm) (hs : shp k = (11, z)) (hk : k < nm) (hi : i = (n : Int)) (hn : n < z) (d : decode cc pc = .ok (.iastore, 1)) (kk : G X Y (pc + 1) L st (upM M k n v) P) : G X Y pc L (vI v :: vI i :: vR k :: st) M P := by
  subst hi
  exact G_iastore hC hs hk (by omega) d (by rw [Int.toNat_natCast]; exact kk)
theorem G_lastoreN {k z n : Nat} {i v : Int} (hC : OK X Y cc own nL rt fr lo nm) (hs : shp k = (12, z)) (hk : k < nm) (hi : i = (n : Int)) (hn : n < z) (d : decode cc pc = .ok (.lastore, 1)) (kk : G X Y (pc + 1) L st (upM M k n v) P) : G X Y pc L (vL v :: vI i :: vR k :: st) M P := by
  subst hi
  exact G_lastore hC hs hk (by omega) d (by rw [Int.toNat_natCast]; exact kk)
theorem G_zastoreN {k z n : Nat} {i v : Int} (hC : OK X Y cc own nL rt fr lo nm) (hs : shp k = (13, z)) (hk : k < nm) (hi : i = (n : Int)) (hn : n < z) (hv : v = 0 ∨ v = 1) (d : decode cc pc = .ok (.bastore, 1)) (kk : G X Y (pc + 1) L st (upM M k n v) P) : G X Y pc L (vI v :: vI i :: vR k :: st) M P := by
  subst hi
  exact G_zastore hC hs hk (by omega) hv d (by rw [Int.toNat_natCast]; exact kk)
end LAYN
/-- a dish as the reference writes it -/
def nv (d : Nat) : Int := if d = 7 then -1 else (d : Int)
theorem nv_r {d : Nat} (h : d < 8) : -1 ≤ nv d ∧ nv d ≤ 6 := by unfold nv; split <;> omega
theorem nv_inj {a b : Nat} (h : nv a = nv b) : a = b := by
  unfold nv at h
  split at h <;> split at h <;> omega
def StM (M : Mem) (n u : Nat) (sl : Nat) (ms : List MO) : Prop := M 45 sl = (ms.length : Int) ∧ ∀ k (x : MO), ms[k]? = some x → (∀ g, g < n → M u (6 * k + g) = nv (x.1 g) ∧ M (u + 1) (6 * k + g) = (x.2.1 g : Int)) ∧ M (u + 2) k = (x.2.2 : Int)
def TxM (M : Mem) (tx : Nat → Nat) (len : Nat) : Prop := ∀ k, k < len → M 58 k = (tx k : Int) ∧ tx k < 256
def qTab (M : Mem) (S : AS) : Prop := (M 45 0 = (tn (sT S) : Int) ∧ M 45 1 = (sNd S : Int) ∧ M 45 2 = (tr (sT S) : Int) ∧ M 45 3 = (sSv S : Int) ∧ M 45 4 = (sCo S : Int)) ∧ ∀ g, g < tn (sT S) → M 46 g = (tk (sT S) g : Int) ∧ M 47 g = (sW S g : Int) ∧ M 49 g = nv (sF0 S g) ∧ ∀ d, d < 6 → M 48 (6 * g + d) = (tw (sT S) g d : Int)
def qNow (M : Mem) (S : AS) : Prop := (∀ g, g < tn (sT S) → M 50 g = nv ((sNow S).1 g) ∧ M 51 g = ((sNow S).2.1 g : Int)) ∧ M 45 11 = ((sNow S).2.2 : Int)
def qMk (c : Nat) (M : Mem) : Prop := 0 ≤ M 45 37 ∧ M 45 37 ≤ 16 * c ∧ ∀ k, k < 46656 → 0 ≤ M 67 k ∧ M 67 k < 1024 * (M 45 37 + 1)
def MIv (c : Nat) (M : Mem) (P : PMem) (S : AS) : Prop := GrM P ∧ qTab M S ∧ qNow M S ∧ StM M (tn (sT S)) 52 12 (sUn S) ∧ StM M (tn (sT S)) 55 16 (sKe S) ∧ (TxM M (sTx S) (sLen S) ∧ M 45 21 = (sLen S : Int)) ∧ qMk c M
def mdX : Nat → Prop := fun a => 45 ≤ a
def mQ (c : Nat) (M : Mem) (P : PMem) (S' : AS) (Rr : Int → Prop) : Int → Mem → PMem → Prop := fun r M' P' => P = P' ∧ Rr r ∧ MIv c M' P S' ∧ eqx mdX M M'
set_option maxHeartbeats 4000000 in
set_option maxRecDepth 100000 in
theorem c_in1 {l : Launch} {v a b : Int} {M : Mem} {P : PMem} (hv : i32r v) (ha : i32r a) (hb : i32r b) (h : a ≤ v ∧ v ≤ b) : CtI l yX10_in cX10_in 3 (some .boolean) 0 0 0 [vI v, vI a, vI b] M P (pI 1 M P) := by
  refine Ct_of (own := RX10) (L := [vI v, vI a, vI b]) (by decide) rfl rfl (Nat.le_of_ble_eq_true rfl) (fun X Y hl hC hQ => ?_)
  unfold i32r at *
  refine G_il0 hC dX10_in_0 ?_
  refine G_il1 hC dX10_in_1 ?_
  refine G_icmp_lt (tgt := 14) hC dX10_in_2 (by decide) (by omega) (by omega) (fun c2 => ?_) (fun c2 => ?_)
  · exact absurd c2 (by omega)
  · refine G_il0 hC dX10_in_5 ?_
    refine G_il2 hC dX10_in_6 ?_
    refine G_icmp_gt (tgt := 14) hC dX10_in_7 (by decide) (by omega) (by omega) (fun c7 => ?_) (fun c7 => ?_)
    · exact absurd c7 (by omega)
    · refine G_iconst hC dX10_in_10 ?_
      refine G_goto (tgt := 15) hC dX10_in_11 (by decide) ?_
      exact G_zret hC hQ dX10_in_15 (by omega) ⟨_, rfl, rfl, rfl, rfl⟩
set_option maxHeartbeats 4000000 in
set_option maxRecDepth 100000 in
theorem c_in0 {l : Launch} {v a b : Int} {M : Mem} {P : PMem} (hv : i32r v) (ha : i32r a) (hb : i32r b) (h : ¬ (a ≤ v ∧ v ≤ b)) : CtI l yX10_in cX10_in 3 (some .boolean) 0 0 0 [vI v, vI a, vI b] M P (pI 0 M P) := by
  refine Ct_of (own := RX10) (L := [vI v, vI a, vI b]) (by decide) rfl rfl (Nat.le_of_ble_eq_true rfl) (fun X Y hl hC hQ => ?_)
  unfold i32r at *
  refine G_il0 hC dX10_in_0 ?_
  refine G_il1 hC dX10_in_1 ?_
  refine G_icmp_lt (tgt := 14) hC dX10_in_2 (by decide) (by omega) (by omega) (fun c2 => ?_) (fun c2 => ?_)
  · refine G_iconst hC dX10_in_14 ?_
    exact G_zret hC hQ dX10_in_15 (by omega) ⟨_, rfl, rfl, rfl, rfl⟩
  · refine G_il0 hC dX10_in_5 ?_
    refine G_il2 hC dX10_in_6 ?_
    refine G_icmp_gt (tgt := 14) hC dX10_in_7 (by decide) (by omega) (by omega) (fun c7 => ?_) (fun c7 => ?_)
    · refine G_iconst hC dX10_in_14 ?_
      exact G_zret hC hQ dX10_in_15 (by omega) ⟨_, rfl, rfl, rfl, rfl⟩
    · exact absurd ⟨by omega, by omega⟩ h
set_option maxHeartbeats 4000000 in
set_option maxRecDepth 100000 in
theorem c_X10_isGuest1 {l : Launch} {c : Nat} {S : AS} {i : Int} {M : Mem} {P : PMem} (hS : SOK c S) (hI : MIv c M P S) (hi : i32r i) (hg : isG S i) : CtI l yX10_isGuest cX10_isGuest 2 (some .boolean) 1 22 77 [vR 45, vI i] M P (pI 1 M P) := by
  refine Ct_of (own := RX10) (L := [vR 45, vI i]) (by decide) rfl rfl (Nat.le_of_ble_eq_true rfl) (fun X Y hl hC hQ => ?_)
  obtain ⟨hGr, ⟨⟨g0, g1, g2, g3, g4⟩, g5⟩, ⟨g6, g7⟩, g8, g9, ⟨g10, g11⟩, g12⟩ := id hI
  obtain ⟨s1, ⟨s2, s3, s4, s5, s6, s7, s8⟩, ⟨s9, s10, s11, s12⟩, s13, s14, s15, s16, s17, s18⟩ := id hS
  obtain ⟨m1, m2, m3, m4⟩ := id s14
  unfold i32r at hi
  unfold isG at hg
  refine G_il1 hC dX10_isGuest_0 ?_
  refine G_iconst hC dX10_isGuest_1 ?_
  refine G_al0 hC dX10_isGuest_2 ?_
  refine G_getI hC fl_X10_116 (by first | assumption | rfl) (by omega) dX10_isGuest_3 ?_
  rw [g0]
  refine G_iconst hC dX10_isGuest_6 ?_
  refine G_isub hC dX10_isGuest_7 ?_
  refine G_callSI hC (c_in1 (by unfold i32r; omega) (by unfold i32r; omega) (by unfold i32r; omega) (by omega)) ms_X10_119 (by decide) rfl (by decide) dX10_isGuest_8 rfl (Nat.le_of_ble_eq_true rfl) rfl (fun z8 M8 P8 h8 => ?_)
  obtain ⟨rfl, rfl, rfl⟩ := h8
  exact G_zret hC hQ dX10_isGuest_11 (by omega) ⟨_, rfl, rfl, rfl, rfl⟩
set_option maxHeartbeats 4000000 in
set_option maxRecDepth 100000 in
theorem c_X10_isGuest0 {l : Launch} {c : Nat} {S : AS} {i : Int} {M : Mem} {P : PMem} (hS : SOK c S) (hI : MIv c M P S) (hi : i32r i) (hg : ¬ isG S i) : CtI l yX10_isGuest cX10_isGuest 2 (some .boolean) 1 22 77 [vR 45, vI i] M P (pI 0 M P) := by
  refine Ct_of (own := RX10) (L := [vR 45, vI i]) (by decide) rfl rfl (Nat.le_of_ble_eq_true rfl) (fun X Y hl hC hQ => ?_)
  obtain ⟨hGr, ⟨⟨g0, g1, g2, g3, g4⟩, g5⟩, ⟨g6, g7⟩, g8, g9, ⟨g10, g11⟩, g12⟩ := id hI
  obtain ⟨s1, ⟨s2, s3, s4, s5, s6, s7, s8⟩, ⟨s9, s10, s11, s12⟩, s13, s14, s15, s16, s17, s18⟩ := id hS
  obtain ⟨m1, m2, m3, m4⟩ := id s14
  unfold i32r at hi
  unfold isG at hg
  refine G_il1 hC dX10_isGuest_0 ?_
  refine G_iconst hC dX10_isGuest_1 ?_
  refine G_al0 hC dX10_isGuest_2 ?_
  refine G_getI hC fl_X10_116 (by first | assumption | rfl) (by omega) dX10_isGuest_3 ?_
  rw [g0]
  refine G_iconst hC dX10_isGuest_6 ?_
  refine G_isub hC dX10_isGuest_7 ?_
  refine G_callSI hC (c_in0 (by unfold i32r; omega) (by unfold i32r; omega) (by unfold i32r; omega) (by omega)) ms_X10_119 (by decide) rfl (by decide) dX10_isGuest_8 rfl (Nat.le_of_ble_eq_true rfl) rfl (fun z8 M8 P8 h8 => ?_)
  obtain ⟨rfl, rfl, rfl⟩ := h8
  exact G_zret hC hQ dX10_isGuest_11 (by omega) ⟨_, rfl, rfl, rfl, rfl⟩
set_option maxHeartbeats 4000000 in
set_option maxRecDepth 100000 in
theorem c_X10_isDish1 {l : Launch} {c : Nat} {S : AS} {i : Int} {M : Mem} {P : PMem} (hS : SOK c S) (hI : MIv c M P S) (hi : i32r i) (hg : isD S i) : CtI l yX10_isDish cX10_isDish 2 (some .boolean) 1 22 77 [vR 45, vI i] M P (pI 1 M P) := by
  refine Ct_of (own := RX10) (L := [vR 45, vI i]) (by decide) rfl rfl (Nat.le_of_ble_eq_true rfl) (fun X Y hl hC hQ => ?_)
  obtain ⟨hGr, ⟨⟨g0, g1, g2, g3, g4⟩, g5⟩, ⟨g6, g7⟩, g8, g9, ⟨g10, g11⟩, g12⟩ := id hI
  obtain ⟨s1, ⟨s2, s3, s4, s5, s6, s7, s8⟩, ⟨s9, s10, s11, s12⟩, s13, s14, s15, s16, s17, s18⟩ := id hS
  obtain ⟨m1, m2, m3, m4⟩ := id s14
  unfold i32r at hi
  unfold isD at hg
  refine G_il1 hC dX10_isDish_0 ?_
  refine G_iconst hC dX10_isDish_1 ?_
  refine G_al0 hC dX10_isDish_2 ?_
  refine G_getI hC fl_X10_123 (by first | assumption | rfl) (by omega) dX10_isDish_3 ?_
  rw [g1]
  refine G_iconst hC dX10_isDish_6 ?_
  refine G_isub hC dX10_isDish_7 ?_
  refine G_callSI hC (c_in1 (by unfold i32r; omega) (by unfold i32r; omega) (by unfold i32r; omega) (by omega)) ms_X10_119 (by decide) rfl (by decide) dX10_isDish_8 rfl (Nat.le_of_ble_eq_true rfl) rfl (fun z8 M8 P8 h8 => ?_)
  obtain ⟨rfl, rfl, rfl⟩ := h8
  exact G_zret hC hQ dX10_isDish_11 (by omega) ⟨_, rfl, rfl, rfl, rfl⟩
set_option maxHeartbeats 4000000 in
set_option maxRecDepth 100000 in
theorem c_X10_isDish0 {l : Launch} {c : Nat} {S : AS} {i : Int} {M : Mem} {P : PMem} (hS : SOK c S) (hI : MIv c M P S) (hi : i32r i) (hg : ¬ isD S i) : CtI l yX10_isDish cX10_isDish 2 (some .boolean) 1 22 77 [vR 45, vI i] M P (pI 0 M P) := by
  refine Ct_of (own := RX10) (L := [vR 45, vI i]) (by decide) rfl rfl (Nat.le_of_ble_eq_true rfl) (fun X Y hl hC hQ => ?_)
  obtain ⟨hGr, ⟨⟨g0, g1, g2, g3, g4⟩, g5⟩, ⟨g6, g7⟩, g8, g9, ⟨g10, g11⟩, g12⟩ := id hI
  obtain ⟨s1, ⟨s2, s3, s4, s5, s6, s7, s8⟩, ⟨s9, s10, s11, s12⟩, s13, s14, s15, s16, s17, s18⟩ := id hS
  obtain ⟨m1, m2, m3, m4⟩ := id s14
  unfold i32r at hi
  unfold isD at hg
  refine G_il1 hC dX10_isDish_0 ?_
  refine G_iconst hC dX10_isDish_1 ?_
  refine G_al0 hC dX10_isDish_2 ?_
  refine G_getI hC fl_X10_123 (by first | assumption | rfl) (by omega) dX10_isDish_3 ?_
  rw [g1]
  refine G_iconst hC dX10_isDish_6 ?_
  refine G_isub hC dX10_isDish_7 ?_
  refine G_callSI hC (c_in0 (by unfold i32r; omega) (by unfold i32r; omega) (by unfold i32r; omega) (by omega)) ms_X10_119 (by decide) rfl (by decide) dX10_isDish_8 rfl (Nat.le_of_ble_eq_true rfl) rfl (fun z8 M8 P8 h8 => ?_)
  obtain ⟨rfl, rfl, rfl⟩ := h8
  exact G_zret hC hQ dX10_isDish_11 (by omega) ⟨_, rfl, rfl, rfl, rfl⟩
set_option maxHeartbeats 4000000 in
set_option maxRecDepth 100000 in
theorem c_X10_here {l : Launch} {tx : Nat → Nat} {len p : Nat} {M : Mem} {P : PMem} (hGr : GrM P) (hT : TxM M tx len) (hE : M 45 21 = (len : Int)) (hlen : len ≤ 300) (hp : M 45 22 = (p : Int)) (hp9 : p ≤ 1000)  : CtI l yX10_here cX10_here 1 (some .int) 0 0 77 [vR 45] M P (pI (sgZ tx len p) M P) := by
  refine Ct_of (own := RX10) (L := [vR 45]) (by decide) rfl rfl (Nat.le_of_ble_eq_true rfl) (fun X Y hl hC hQ => ?_)
  refine G_al0 hC dX10_here_0 ?_
  refine G_getI hC fl_X10_131 (by first | assumption | rfl) (by omega) dX10_here_1 ?_
  refine G_al0 hC dX10_here_4 ?_
  refine G_getI hC fl_X10_126 (by first | assumption | rfl) (by omega) dX10_here_5 ?_
  rw [hE, hp]
  refine G_icmp_ge (tgt := 23) hC dX10_here_8 (by decide) (by omega) (by omega) (fun c8 => ?_) (fun c8 => ?_)
  · refine G_iconst hC dX10_here_23 ?_
    exact G_iret hC hQ dX10_here_24 ⟨_, rfl, by
  unfold sgZ
  first
    | (rw [if_neg (by omega)]; done)
    | (rw [if_pos (by omega), (hT p (by omega)).1]; done), rfl, rfl⟩
  · refine G_al0 hC dX10_here_11 ?_
    refine G_getR hC fl_X10_46 (by first | assumption | rfl) (by omega) (by first | assumption | exact hGr _ _ rfl) dX10_here_12 ?_
    refine G_al0 hC dX10_here_15 ?_
    refine G_getI hC fl_X10_131 (by first | assumption | rfl) (by omega) dX10_here_16 ?_
    rw [hp]
    refine G_ialoadN (n := p) hC (by first | assumption | rfl) (by omega) (by omega) (by omega) dX10_here_19 ?_
    refine G_goto (tgt := 24) hC dX10_here_20 (by decide) ?_
    exact G_iret hC hQ dX10_here_24 ⟨_, rfl, by
  unfold sgZ
  first
    | (rw [if_neg (by omega)]; done)
    | (rw [if_pos (by omega), (hT p (by omega)).1]; done), rfl, rfl⟩
theorem sgM_r {M : Mem} {tx : Nat → Nat} {len p : Nat} (hT : TxM M tx len) : -1 ≤ sgZ tx len p ∧ sgZ tx len p ≤ 255 := by
  unfold sgZ
  split
  · have := (hT p (by omega)).2; omega
  · omega
theorem TxM_6 {M : Mem} {tx : Nat → Nat} {len k j : Nat} {v : Int} (h : TxM M tx len) (hk : k ≠ 58) : TxM (upM M k j v) tx len := fun i hi => by rw [upM_ne (fun e => hk e.symm)]; exact h i hi
theorem sg_fig {tx : Nat → Nat} {len p a : Nat} (h : figN tx len p = some a) : (48 ≤ sgZ tx len p ∧ sgZ tx len p ≤ 57) ∧ sgZ tx len p = (a : Int) + 48 := by
  obtain ⟨h1, h2⟩ := figN_1 h
  unfold sgZ
  rw [if_pos h1.1]
  omega
theorem sg_nofig {tx : Nat → Nat} {len p : Nat} (h : figN tx len p = none) : ¬ (48 ≤ sgZ tx len p ∧ sgZ tx len p ≤ 57) := by
  have := figN_0 h
  unfold sgZ
  split
  · omega
  · omega
set_option maxHeartbeats 4000000 in
set_option maxRecDepth 100000 in
theorem c_X10_number0 {l : Launch} {tx : Nat → Nat} {len p : Nat} {M : Mem} {P : PMem} (hGr : GrM P) (hT : TxM M tx len) (hE : M 45 21 = (len : Int)) (hlen : len ≤ 300) (hp : M 45 22 = (p : Int)) (hp9 : p ≤ 900) (hn : numN tx len p = none) : CtI l yX10_number cX10_number 3 (some .int) 1 22 77 [vR 45] M P (pI (-1) M P) := by
  refine Ct_of (own := RX10) (L := [vR 45, vX 1, vX 1]) (by decide) rfl rfl (Nat.le_of_ble_eq_true rfl) (fun X Y hl hC hQ => ?_)
  have hf : figN tx len p = none := by
    unfold numN at hn
    cases h1 : figN tx len p with
    | none => rfl
    | some a =>
      rw [h1] at hn
      cases h2 : figN tx len (p + 1) with
      | none => rw [h2] at hn; cases hn
      | some b => rw [h2] at hn; cases hn
  have hsr := sgM_r (p := p) hT
  refine G_iconst hC dX10_number_0 ?_
  refine G_is1 hC dX10_number_1 rfl ?_
  refine G_iconst hC dX10_number_2 ?_
  refine G_is2 hC dX10_number_3 rfl ?_
  refine G_il2 hC dX10_number_4 ?_
  refine G_iconst hC dX10_number_5 ?_
  refine G_icmp_ge (tgt := 60) hC dX10_number_6 (by decide) (by omega) (by omega) (fun c6 => ?_) (fun c6 => ?_)
  · exact absurd c6 (by omega)
  · refine G_al0 hC dX10_number_9 ?_
    refine G_callVI hC (c_X10_here hGr hT hE hlen hp (by omega)) mv_X10_146 (by first | assumption | rfl) (by omega) (by decide) rfl (by decide) dX10_number_10 rfl (Nat.le_of_ble_eq_true rfl) rfl (fun z10 M10 P10 h10 => ?_)
    obtain ⟨rfl, rfl, rfl⟩ := h10
    refine G_bipush hC dX10_number_13 (by decide) ?_
    refine G_bipush hC dX10_number_15 (by decide) ?_
    refine G_callSI hC (c_in0 (by unfold i32r; omega) (by unfold i32r; omega) (by unfold i32r; omega) (sg_nofig hf)) ms_X10_119 (by decide) rfl (by decide) dX10_number_17 rfl (Nat.le_of_ble_eq_true rfl) rfl (fun z17 M17 P17 h17 => ?_)
    obtain ⟨rfl, rfl, rfl⟩ := h17
    refine G_if_eq (tgt := 60) hC dX10_number_20 (by decide) (by omega) (fun c20 => ?_) (fun c20 => ?_)
    · refine G_il1 hC dX10_number_60 ?_
      exact G_iret hC hQ dX10_number_61 ⟨_, rfl, rfl, rfl, rfl⟩
    · exact absurd rfl c20
set_option maxHeartbeats 4000000 in
set_option maxRecDepth 100000 in
theorem c_X10_number1 {l : Launch} {tx : Nat → Nat} {len p v p1 : Nat} {M : Mem} {P : PMem} (hGr : GrM P) (hT : TxM M tx len) (hE : M 45 21 = (len : Int)) (hlen : len ≤ 300) (hp : M 45 22 = (p : Int)) (hp9 : p ≤ 900) (hn : numN tx len p = some (v, p1)) : CtI l yX10_number cX10_number 3 (some .int) 1 22 77 [vR 45] M P (pI v (upM M 45 22 p1) P) := by
  refine Ct_of (own := RX10) (L := [vR 45, vX 1, vX 1]) (by decide) rfl rfl (Nat.le_of_ble_eq_true rfl) (fun X Y hl hC hQ => ?_)
  unfold numN at hn
  have hsr := sgM_r (p := p) hT
  cases h1f : figN tx len p with
  | none => rw [h1f] at hn; cases hn
  | some a =>
    rw [h1f] at hn
    have ha9 := figN_le h1f
    obtain ⟨hs1, hs2⟩ := sg_fig h1f
    have hT1 : TxM (upM M 45 22 (p + 1)) tx len := TxM_6 hT (by omega)
    have hE1 : upM M 45 22 (p + 1) 45 21 = (len : Int) := by rw [upM_nej (by omega)]; exact hE
    have hp1 : upM M 45 22 (p + 1) 45 22 = ((p + 1 : Nat) : Int) := by rw [upM_self]; omega
    have hsr2 := sgM_r (p := p + 1) hT1
    have hnext : G X Y 4 [vR 45, vI a, vI 1] [] (upM M 45 22 (p + 1)) P := by
      cases h2f : figN tx len (p + 1) with
      | none =>
        rw [h2f] at hn
        have e1 : a = v := by cases hn; rfl
        have e2 : p + 1 = p1 := by cases hn; rfl
        refine G_il2 hC dX10_number_4 ?_
        refine G_iconst hC dX10_number_5 ?_
        refine G_icmp_ge (tgt := 60) hC dX10_number_6 (by decide) (by omega) (by omega) (fun c6 => ?_) (fun c6 => ?_)
        · exact absurd c6 (by omega)
        · refine G_al0 hC dX10_number_9 ?_
          refine G_callVI hC (c_X10_here hGr hT1 hE1 hlen hp1 (by omega)) mv_X10_146 (by first | assumption | rfl) (by omega) (by decide) rfl (by decide) dX10_number_10 rfl (Nat.le_of_ble_eq_true rfl) rfl (fun z10 M10 P10 h10 => ?_)
          obtain ⟨rfl, rfl, rfl⟩ := h10
          refine G_bipush hC dX10_number_13 (by decide) ?_
          refine G_bipush hC dX10_number_15 (by decide) ?_
          refine G_callSI hC (c_in0 (by unfold i32r; omega) (by unfold i32r; omega) (by unfold i32r; omega) (sg_nofig h2f)) ms_X10_119 (by decide) rfl (by decide) dX10_number_17 rfl (Nat.le_of_ble_eq_true rfl) rfl (fun z17 M17 P17 h17 => ?_)
          obtain ⟨rfl, rfl, rfl⟩ := h17
          refine G_if_eq (tgt := 60) hC dX10_number_20 (by decide) (by omega) (fun c20 => ?_) (fun c20 => ?_)
          · refine G_il1 hC dX10_number_60 ?_
            exact G_iret hC hQ dX10_number_61 ⟨_, rfl, by omega, by rw [← e2]; congr 1, rfl⟩
          · exact absurd rfl c20
      | some b =>
        rw [h2f] at hn
        have hb9 := figN_le h2f
        obtain ⟨ht1, ht2⟩ := sg_fig h2f
        have e1 : 10 * a + b = v := by cases hn; rfl
        have e2 : p + 2 = p1 := by cases hn; rfl
        have hend : G X Y 4 [vR 45, vI v, vI 2] [] (upM M 45 22 p1) P := by
          refine G_il2 hC dX10_number_4 ?_
          refine G_iconst hC dX10_number_5 ?_
          refine G_icmp_ge (tgt := 60) hC dX10_number_6 (by decide) (by omega) (by omega) (fun c6 => ?_) (fun c6 => ?_)
          · refine G_il1 hC dX10_number_60 ?_
            exact G_iret hC hQ dX10_number_61 ⟨_, rfl, rfl, rfl, rfl⟩
          · exact absurd c6 (by omega)
        refine G_il2 hC dX10_number_4 ?_
        refine G_iconst hC dX10_number_5 ?_
        refine G_icmp_ge (tgt := 60) hC dX10_number_6 (by decide) (by omega) (by omega) (fun c6 => ?_) (fun c6 => ?_)
        · exact absurd c6 (by omega)
        · refine G_al0 hC dX10_number_9 ?_
          refine G_callVI hC (c_X10_here hGr hT1 hE1 hlen hp1 (by omega)) mv_X10_146 (by first | assumption | rfl) (by omega) (by decide) rfl (by decide) dX10_number_10 rfl (Nat.le_of_ble_eq_true rfl) rfl (fun z10 M10 P10 h10 => ?_)
          obtain ⟨rfl, rfl, rfl⟩ := h10
          refine G_bipush hC dX10_number_13 (by decide) ?_
          refine G_bipush hC dX10_number_15 (by decide) ?_
          refine G_callSI hC (c_in1 (by unfold i32r; omega) (by unfold i32r; omega) (by unfold i32r; omega) ht1) ms_X10_119 (by decide) rfl (by decide) dX10_number_17 rfl (Nat.le_of_ble_eq_true rfl) rfl (fun z17 M17 P17 h17 => ?_)
          obtain ⟨rfl, rfl, rfl⟩ := h17
          refine G_if_eq (tgt := 60) hC dX10_number_20 (by decide) (by omega) (fun c20 => ?_) (fun c20 => ?_)
          · exact absurd c20 (by omega)
          · refine G_il2 hC dX10_number_23 ?_
            refine G_if_ne (tgt := 31) hC dX10_number_24 (by decide) (by omega) (fun c24 => ?_) (fun c24 => ?_)
            · refine G_bipush hC dX10_number_31 (by decide) ?_
              refine G_il1 hC dX10_number_33 ?_
              refine G_imul hC dX10_number_34 ?_
              refine G_al0 hC dX10_number_35 ?_
              refine G_callVI hC (c_X10_here hGr hT1 hE1 hlen hp1 (by omega)) mv_X10_146 (by first | assumption | rfl) (by omega) (by decide) rfl (by decide) dX10_number_36 rfl (Nat.le_of_ble_eq_true rfl) rfl (fun z36 M36 P36 h36 => ?_)
              obtain ⟨rfl, rfl, rfl⟩ := h36
              refine G_iadd hC dX10_number_39 ?_
              refine G_bipush hC dX10_number_40 (by decide) ?_
              refine G_isub hC dX10_number_42 ?_
              refine G_is1 hC dX10_number_43 rfl ?_
              refine G_al0 hC dX10_number_44 ?_
              refine G_dup hC dX10_number_45 rfl ?_
              skip
              refine G_getI hC fl_X10_131 (by first | assumption | rfl) (by omega) dX10_number_46 ?_
              refine G_iconst hC dX10_number_49 ?_
              refine G_iadd hC dX10_number_50 ?_
              rw [hp1]
              refine G_putI hC fl_X10_131 (by first | assumption | rfl) (by omega) dX10_number_51 ?_
              refine G_inc2 hC dX10_number_54 rfl ?_
              refine G_goto (tgt := 4) hC dX10_number_57 (by decide) ?_
              have eM : upM (upM M 45 22 (p + 1)) 45 22 (((p + 1 : Nat) : Int) + 1) = upM M 45 22 p1 := by
                funext x y; unfold upM
                by_cases z : x = 45 ∧ y = 22
                · rw [if_pos z, if_pos z]; omega
                · rw [if_neg z, if_neg z, if_neg z]
              rw [eM, show 10 * (a : Int) + sgZ tx len (p + 1) - 48 = (v : Int) by omega]
              exact hend
            · exact absurd c24 (by omega)
    refine G_iconst hC dX10_number_0 ?_
    refine G_is1 hC dX10_number_1 rfl ?_
    refine G_iconst hC dX10_number_2 ?_
    refine G_is2 hC dX10_number_3 rfl ?_
    refine G_il2 hC dX10_number_4 ?_
    refine G_iconst hC dX10_number_5 ?_
    refine G_icmp_ge (tgt := 60) hC dX10_number_6 (by decide) (by omega) (by omega) (fun c6 => ?_) (fun c6 => ?_)
    · exact absurd c6 (by omega)
    · refine G_al0 hC dX10_number_9 ?_
      refine G_callVI hC (c_X10_here hGr hT hE hlen hp (by omega)) mv_X10_146 (by first | assumption | rfl) (by omega) (by decide) rfl (by decide) dX10_number_10 rfl (Nat.le_of_ble_eq_true rfl) rfl (fun z10 M10 P10 h10 => ?_)
      obtain ⟨rfl, rfl, rfl⟩ := h10
      refine G_bipush hC dX10_number_13 (by decide) ?_
      refine G_bipush hC dX10_number_15 (by decide) ?_
      refine G_callSI hC (c_in1 (by unfold i32r; omega) (by unfold i32r; omega) (by unfold i32r; omega) hs1) ms_X10_119 (by decide) rfl (by decide) dX10_number_17 rfl (Nat.le_of_ble_eq_true rfl) rfl (fun z17 M17 P17 h17 => ?_)
      obtain ⟨rfl, rfl, rfl⟩ := h17
      refine G_if_eq (tgt := 60) hC dX10_number_20 (by decide) (by omega) (fun c20 => ?_) (fun c20 => ?_)
      · exact absurd c20 (by omega)
      · refine G_il2 hC dX10_number_23 ?_
        refine G_if_ne (tgt := 31) hC dX10_number_24 (by decide) (by omega) (fun c24 => ?_) (fun c24 => ?_)
        · exact absurd rfl c24
        · refine G_iconst hC dX10_number_27 ?_
          refine G_goto (tgt := 35) hC dX10_number_28 (by decide) ?_
          refine G_al0 hC dX10_number_35 ?_
          refine G_callVI hC (c_X10_here hGr hT hE hlen hp (by omega)) mv_X10_146 (by first | assumption | rfl) (by omega) (by decide) rfl (by decide) dX10_number_36 rfl (Nat.le_of_ble_eq_true rfl) rfl (fun z36 M36 P36 h36 => ?_)
          obtain ⟨rfl, rfl, rfl⟩ := h36
          refine G_iadd hC dX10_number_39 ?_
          refine G_bipush hC dX10_number_40 (by decide) ?_
          refine G_isub hC dX10_number_42 ?_
          refine G_is1 hC dX10_number_43 rfl ?_
          refine G_al0 hC dX10_number_44 ?_
          refine G_dup hC dX10_number_45 rfl ?_
          refine G_getI hC fl_X10_131 (by first | assumption | rfl) (by omega) dX10_number_46 ?_
          refine G_iconst hC dX10_number_49 ?_
          refine G_iadd hC dX10_number_50 ?_
          rw [hp]
          refine G_putI hC fl_X10_131 (by first | assumption | rfl) (by omega) dX10_number_51 ?_
          refine G_inc2 hC dX10_number_54 rfl ?_
          refine G_goto (tgt := 4) hC dX10_number_57 (by decide) ?_
          rw [show (0 : Int) + sgZ tx len p - 48 = (a : Int) by omega]
          exact hnext
set_option maxHeartbeats 4000000 in
set_option maxRecDepth 100000 in
theorem c_X10_isSign1 {l : Launch} {tx : Nat → Nat} {len p q : Nat} {M : Mem} {P : PMem} (hGr : GrM P) (hT : TxM M tx len) (hE : M 45 21 = (len : Int)) (hlen : len ≤ 300) (hp : M 45 22 = (p : Int)) (hp9 : p ≤ 1000) (h : p < len ∧ tx p = q) : CtI l yX10_isSign cX10_isSign 3 (some .boolean) 1 20 77 [vR 45, vI q] M P (pI 1 (upM M 45 22 (p + 1)) P) := by
  refine Ct_of (own := RX10) (L := [vR 45, vI q, vX 1]) (by decide) rfl rfl (Nat.le_of_ble_eq_true rfl) (fun X Y hl hC hQ => ?_)
  have hsg : sgZ tx len p = (q : Int) := by unfold sgZ; rw [if_pos h.1, h.2]
  have hsr := sgM_r (p := p) hT
  refine G_al0 hC dX10_isSign_0 ?_
  refine G_callVI hC (c_X10_here hGr hT hE hlen hp (by omega)) mv_X10_146 (by first | assumption | rfl) (by omega) (by decide) rfl (by decide) dX10_isSign_1 rfl (Nat.le_of_ble_eq_true rfl) rfl (fun z1 M1 P1 h1 => ?_)
  obtain ⟨rfl, rfl, rfl⟩ := h1
  refine G_il1 hC dX10_isSign_4 ?_
  refine G_icmp_ne (tgt := 12) hC dX10_isSign_5 (by decide) (by omega) (by omega) (fun c5 => ?_) (fun c5 => ?_)
  · exact absurd hsg c5
  · refine G_iconst hC dX10_isSign_8 ?_
    refine G_goto (tgt := 13) hC dX10_isSign_9 (by decide) ?_
    refine G_is2 hC dX10_isSign_13 rfl ?_
    refine G_al0 hC dX10_isSign_14 ?_
    refine G_dup hC dX10_isSign_15 rfl ?_
    refine G_getI hC fl_X10_131 (by first | assumption | rfl) (by omega) dX10_isSign_16 ?_
    refine G_il2 hC dX10_isSign_19 ?_
    refine G_if_eq (tgt := 27) hC dX10_isSign_20 (by decide) (by omega) (fun c20 => ?_) (fun c20 => ?_)
    · exact absurd c20 (by omega)
    · refine G_iconst hC dX10_isSign_23 ?_
      refine G_goto (tgt := 28) hC dX10_isSign_24 (by decide) ?_
      refine G_iadd hC dX10_isSign_28 ?_
      rw [hp]
      refine G_putI hC fl_X10_131 (by first | assumption | rfl) (by omega) dX10_isSign_29 ?_
      refine G_il2 hC dX10_isSign_32 ?_
      exact G_zret hC hQ dX10_isSign_33 (by omega) ⟨_, rfl, rfl, rfl, rfl⟩
set_option maxHeartbeats 4000000 in
set_option maxRecDepth 100000 in
theorem c_X10_isSign0 {l : Launch} {tx : Nat → Nat} {len p q : Nat} {M : Mem} {P : PMem} (hGr : GrM P) (hT : TxM M tx len) (hE : M 45 21 = (len : Int)) (hlen : len ≤ 300) (hp : M 45 22 = (p : Int)) (hp9 : p ≤ 1000) (hq : q < 256) (h : ¬ (p < len ∧ tx p = q)) : CtI l yX10_isSign cX10_isSign 3 (some .boolean) 1 20 77 [vR 45, vI q] M P (pI 0 M P) := by
  refine Ct_of (own := RX10) (L := [vR 45, vI q, vX 1]) (by decide) rfl rfl (Nat.le_of_ble_eq_true rfl) (fun X Y hl hC hQ => ?_)
  have hsr := sgM_r (p := p) hT
  have hsg : ¬ sgZ tx len p = (q : Int) := fun e => by
    unfold sgZ at e
    split at e
    · exact h ⟨by assumption, by omega⟩
    · omega
  refine G_al0 hC dX10_isSign_0 ?_
  refine G_callVI hC (c_X10_here hGr hT hE hlen hp (by omega)) mv_X10_146 (by first | assumption | rfl) (by omega) (by decide) rfl (by decide) dX10_isSign_1 rfl (Nat.le_of_ble_eq_true rfl) rfl (fun z1 M1 P1 h1 => ?_)
  obtain ⟨rfl, rfl, rfl⟩ := h1
  refine G_il1 hC dX10_isSign_4 ?_
  refine G_icmp_ne (tgt := 12) hC dX10_isSign_5 (by decide) (by omega) (by omega) (fun c5 => ?_) (fun c5 => ?_)
  · refine G_iconst hC dX10_isSign_12 ?_
    refine G_is2 hC dX10_isSign_13 rfl ?_
    refine G_al0 hC dX10_isSign_14 ?_
    refine G_dup hC dX10_isSign_15 rfl ?_
    refine G_getI hC fl_X10_131 (by first | assumption | rfl) (by omega) dX10_isSign_16 ?_
    refine G_il2 hC dX10_isSign_19 ?_
    refine G_if_eq (tgt := 27) hC dX10_isSign_20 (by decide) (by omega) (fun c20 => ?_) (fun c20 => ?_)
    · refine G_iconst hC dX10_isSign_27 ?_
      refine G_iadd hC dX10_isSign_28 ?_
      rw [hp]
      refine G_putI hC fl_X10_131 (by first | assumption | rfl) (by omega) dX10_isSign_29 ?_
      refine G_il2 hC dX10_isSign_32 ?_
      exact G_zret hC hQ dX10_isSign_33 (by omega) ⟨_, rfl, rfl, by rw [show (p : Int) + 0 = M 45 22 by omega, upM_same], rfl⟩
    · exact absurd rfl c20
  · exact absurd (by omega) hsg
