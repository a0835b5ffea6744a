/-! the reference lays -/
def bgM (M : Mem) : Mem := upM (upM (upM (upM (upM (upM M 45 22 0) 45 23 0) 45 24 3) 45 25 0) 45 26 9) 45 27 1
theorem bgM_K {M : Mem} : mK M (bgM M) := ⟨fun a ha b => by
  unfold sMs at ha
  unfold bgM
  rw [upM_ne (by omega), upM_ne (by omega), upM_ne (by omega), upM_ne (by omega), upM_ne (by omega), upM_ne (by omega)], fun b hb => by
  unfold bgM
  rw [upM_nej (by omega), upM_nej (by omega), upM_nej (by omega), upM_nej (by omega), upM_nej (by omega), upM_nej (by omega)]⟩
theorem bgM_R {M : Mem} : MsR (bgM M) ts0 ∧ bgM M 45 22 = 0 := by
  unfold bgM
  refine ⟨⟨⟨by simp [upM]; rfl, by simp [upM]; rfl, by simp [upM]; rfl, by simp [upM]; rfl, by simp [upM]; rfl⟩, ⟨clM M 2, ToR_0⟩, fun g hg => ?_⟩, by simp [upM]⟩
  have : g < 0 := hg
  omega
set_option maxHeartbeats 4000000 in
set_option maxRecDepth 100000 in
theorem c_X10_begins {l : Launch}  {M : Mem} {P : PMem} (hGr : GrM P) : CtV l yX10_begins cX10_begins 1 none 0 0 77 [vR 45] M P (pV (bgM M) P) := by
  refine Ct_of (own := RX10) (L := [vR 45]) (by decide) rfl rfl (Nat.le_of_ble_eq_true rfl) (fun X Y hl hC hQ => ?_)
  refine G_al0 hC dX10_begins_0 ?_
  refine G_iconst hC dX10_begins_1 ?_
  refine G_putI hC fl_X10_131 (by first | assumption | rfl) (by omega) dX10_begins_2 ?_
  refine G_al0 hC dX10_begins_5 ?_
  refine G_iconst hC dX10_begins_6 ?_
  refine G_putI hC fl_X10_109 (by first | assumption | rfl) (by omega) dX10_begins_7 ?_
  refine G_al0 hC dX10_begins_10 ?_
  refine G_iconst hC dX10_begins_11 ?_
  refine G_putI hC fl_X10_134 (by first | assumption | rfl) (by omega) dX10_begins_12 ?_
  refine G_al0 hC dX10_begins_15 ?_
  refine G_iconst hC dX10_begins_16 ?_
  refine G_putI hC fl_X10_137 (by first | assumption | rfl) (by omega) dX10_begins_17 ?_
  refine G_al0 hC dX10_begins_20 ?_
  refine G_bipush hC dX10_begins_21 (by decide) ?_
  refine G_putI hC fl_X10_140 (by first | assumption | rfl) (by omega) dX10_begins_23 ?_
  refine G_al0 hC dX10_begins_26 ?_
  refine G_iconst hC dX10_begins_27 ?_
  refine G_putI hC fl_X10_143 (by first | assumption | rfl) (by omega) dX10_begins_28 ?_
  exact G_vret hC hQ dX10_begins_31 ⟨rfl, rfl, rfl⟩
def ffQ (M : Mem) (P : PMem) (tx : Nat → Nat) (len : Nat) : Int → Mem → PMem → Prop := fun r M' P' => P = P' ∧ mK M M' ∧ ((∃ p, prsF tx len 301 0 ts0 = .inl p ∧ r = (p : Int) ∧ p ≤ 300) ∨ (∃ Q, prsF tx len 301 0 ts0 = .inr Q ∧ r = -4 ∧ MsR M' Q))
theorem TxM_K {M M' : Mem} {tx : Nat → Nat} {len : Nat} (h : mK M M') (hT : TxM M tx len) : TxM M' tx len := fun k hk => by
  rw [h.1 58 (by unfold sMs; omega)]; exact hT k hk
set_option maxHeartbeats 4000000 in
set_option maxRecDepth 100000 in
theorem c_X10_findFault {l : Launch} {tx : Nat → Nat} {len : Nat} {M : Mem} {P : PMem} (hGr : GrM P) (hT : TxM M tx len) (hE : M 45 21 = (len : Int)) (hlen : len ≤ 300) : CtI l yX10_findFault cX10_findFault 2 (some .int) 4 92 77 [vR 45] M P (ffQ M P tx len) := by
  refine Ct_of (own := RX10) (L := [vR 45, vX 1]) (by decide) rfl rfl (Nat.le_of_ble_eq_true rfl) (fun X Y hl hC hQ => ?_)
  have hlp : ∀ (c p : Nat) (Q : TS) (M1 : Mem) (x1 : AV), len ≤ p + c → p ≤ 400 → mK M M1 → MsR M1 Q → M1 45 22 = (p : Int) → prsF tx len (c + 1) p Q = prsF tx len 301 0 ts0 → G X Y 4 [vR 45, x1] [] M1 P := by
    intro c
    induction c with
    | zero =>
      intro p Q M1 x1 hk hp4 hK hQ1 hp1 hpr
      have hE1 : M1 45 21 = (len : Int) := by rw [hK.2 21 (by omega)]; exact hE
      have : prsF tx len (0 + 1) p Q = .inr Q := by unfold prsF; rw [if_neg (by omega)]
      refine G_al0 hC dX10_findFault_4 ?_
      refine G_getI hC fl_X10_131 (by first | assumption | rfl) (by omega) dX10_findFault_5 ?_
      refine G_al0 hC dX10_findFault_8 ?_
      refine G_getI hC fl_X10_126 (by first | assumption | rfl) (by omega) dX10_findFault_9 ?_
      rw [hE1, hp1]
      refine G_icmp_ge (tgt := 32) hC dX10_findFault_12 (by decide) (by omega) (by omega) (fun c12 => ?_) (fun c12 => ?_)
      · refine G_bipush hC dX10_findFault_32 (by decide) ?_
        exact G_iret hC hQ dX10_findFault_34 ⟨_, rfl, rfl, hK, Or.inr ⟨Q, hpr.symm.trans this, rfl, hQ1⟩⟩
      · exact absurd c12 (by omega)
    | succ c ih =>
      intro p Q M1 x1 hk hp4 hK hQ1 hp1 hpr
      have hE1 : M1 45 21 = (len : Int) := by rw [hK.2 21 (by omega)]; exact hE
      unfold prsF at hpr
      by_cases hpl : p < len
      · rw [if_pos hpl] at hpr
        refine G_al0 hC dX10_findFault_4 ?_
        refine G_getI hC fl_X10_131 (by first | assumption | rfl) (by omega) dX10_findFault_5 ?_
        refine G_al0 hC dX10_findFault_8 ?_
        refine G_getI hC fl_X10_126 (by first | assumption | rfl) (by omega) dX10_findFault_9 ?_
        rw [hE1, hp1]
        refine G_icmp_ge (tgt := 32) hC dX10_findFault_12 (by decide) (by omega) (by omega) (fun c12 => ?_) (fun c12 => ?_)
        · exact absurd c12 (by omega)
        · refine G_al0 hC dX10_findFault_15 ?_
          refine G_getI hC fl_X10_131 (by first | assumption | rfl) (by omega) dX10_findFault_16 ?_
          rw [hp1]
          refine G_is1 hC dX10_findFault_19 rfl ?_
          refine G_al0 hC dX10_findFault_20 ?_
          refine G_callVI hC (c_X10_isItem hGr (TxM_K hK hT) hE1 hlen hp1 (by omega) hQ1 hpl) mv_X10_167 (by first | assumption | rfl) (by omega) (by decide) rfl (by decide) dX10_findFault_21 rfl (Nat.le_of_ble_eq_true rfl) rfl (fun z21 M21 P21 h21 => ?_)
          skip
          obtain ⟨rfl, hK2, hz⟩ := h21
          rcases hz with ⟨rfl, hz⟩ | ⟨rfl, p', S', hz, hS2, hp2, l1, l2⟩
          · rw [hz] at hpr
            refine G_if_ne (tgt := 29) hC dX10_findFault_24 (by decide) (by omega) (fun c24 => ?_) (fun c24 => ?_)
            · exact absurd rfl c24
            · refine G_il1 hC dX10_findFault_27 ?_
              exact G_iret hC hQ dX10_findFault_28 ⟨_, rfl, rfl, hK.trans hK2, Or.inl ⟨p, hpr.symm, rfl, by omega⟩⟩
          · rw [hz] at hpr
            refine G_if_ne (tgt := 29) hC dX10_findFault_24 (by decide) (by omega) (fun c24 => ?_) (fun c24 => ?_)
            · refine G_goto (tgt := 4) hC dX10_findFault_29 (by decide) ?_
              exact ih p' S' M21 _ (by omega) (by omega) (hK.trans hK2) hS2 hp2 hpr
            · exact absurd c24 (by omega)
      · rw [if_neg hpl] at hpr
        refine G_al0 hC dX10_findFault_4 ?_
        refine G_getI hC fl_X10_131 (by first | assumption | rfl) (by omega) dX10_findFault_5 ?_
        refine G_al0 hC dX10_findFault_8 ?_
        refine G_getI hC fl_X10_126 (by first | assumption | rfl) (by omega) dX10_findFault_9 ?_
        rw [hE1, hp1]
        refine G_icmp_ge (tgt := 32) hC dX10_findFault_12 (by decide) (by omega) (by omega) (fun c12 => ?_) (fun c12 => ?_)
        · refine G_bipush hC dX10_findFault_32 (by decide) ?_
          exact G_iret hC hQ dX10_findFault_34 ⟨_, rfl, rfl, hK, Or.inr ⟨Q, hpr.symm, rfl, hQ1⟩⟩
        · exact absurd c12 (by omega)
  refine G_al0 hC dX10_findFault_0 ?_
  refine G_callVV hC (c_X10_begins hGr) mv_X10_106 (by first | assumption | rfl) (by omega) (by decide) rfl (by decide) dX10_findFault_1 rfl (Nat.le_of_ble_eq_true rfl) rfl (fun M1 P1 h1 => ?_)
  obtain ⟨rfl, rfl⟩ := h1
  exact hlp 300 0 ts0 _ _ (by omega) (by omega) bgM_K bgM_R.1 bgM_R.2 rfl
theorem StM_x {M M' : Mem} {n u sl : Nat} {ms : List MO} (h : StM M n u sl ms) (e : ∀ a, a = u ∨ a = u + 1 ∨ a = u + 2 → ∀ b, M' a b = M a b) (e45 : M' 45 sl = M 45 sl) : StM M' n u sl ms := by
  obtain ⟨h1, h2⟩ := h
  exact ⟨by rw [e45]; exact h1, fun k x hk => ⟨fun g hg => by rw [e u (by omega), e (u + 1) (by omega)]; exact (h2 k x hk).1 g hg, by rw [e (u + 2) (by omega)]; exact (h2 k x hk).2⟩⟩
/-- scratch may change -/
theorem MIv_x {c c' : Nat} {M M' : Mem} {P : PMem} {S : AS} (h : MIv c M P S) (e : ∀ a, 46 ≤ a → a ≤ 58 → ∀ b, M' a b = M a b) (e45 : ∀ b, b ≤ 21 → M' 45 b = M 45 b) (hm : qMk c' M') : MIv c' M' P S := by
  obtain ⟨h1, ⟨⟨a0, a1, a2, a3, a4⟩, a5⟩, ⟨b1, b2⟩, h4, h5, ⟨h6, h7⟩, -⟩ := h
  refine ⟨h1, ⟨⟨by rw [e45 0 (by omega)]; exact a0, by rw [e45 1 (by omega)]; exact a1, by rw [e45 2 (by omega)]; exact a2, by rw [e45 3 (by omega)]; exact a3, by rw [e45 4 (by omega)]; exact a4⟩, fun g hg => ?_⟩, ⟨fun g hg => ?_, by rw [e45 11 (by omega)]; exact b2⟩, StM_x h4 (fun a ha b => e a (by omega) (by omega) b) (e45 12 (by omega)), StM_x h5 (fun a ha b => e a (by omega) (by omega) b) (e45 16 (by omega)), ⟨fun k hk => by rw [e 58 (by omega) (by omega)]; exact h6 k hk, by rw [e45 21 (by omega)]; exact h7⟩, hm⟩
  · rw [e 46 (by omega) (by omega), e 47 (by omega) (by omega), e 49 (by omega) (by omega)]
    exact ⟨(a5 g hg).1, (a5 g hg).2.1, (a5 g hg).2.2.1, fun d hd => by rw [e 48 (by omega) (by omega)]; exact (a5 g hg).2.2.2 d hd⟩
  · rw [e 50 (by omega) (by omega), e 51 (by omega) (by omega)]; exact b1 g hg
theorem qMk_x {c : Nat} {M M' : Mem} (h : qMk c M) (e45 : M' 45 37 = M 45 37) (e : ∀ b, M' 67 b = M 67 b) : qMk c M' := by
  unfold qMk
  rw [e45]
  exact ⟨h.1, h.2.1, fun k hk => by rw [e]; exact h.2.2 k hk⟩
theorem MIv_K {c : Nat} {M M' : Mem} {P : PMem} {S : AS} (h : MIv c M P S) (hK : mK M M') : MIv c M' P S ∧ eqx mdX M M' :=
  ⟨MIv_x h (fun a h1 h2 b => hK.1 a (by unfold sMs; omega) b) (fun b hb => hK.2 b (by omega)) (qMk_x h.2.2.2.2.2.2 (hK.2 37 (by omega)) (hK.1 67 (by unfold sMs; omega))), fun a ha b => hK.1 a (fun q => ha (by unfold mdX; unfold sMs at q; omega)) b⟩
set_option maxHeartbeats 4000000 in
set_option maxRecDepth 100000 in
theorem c_X10_fault {l : Launch} {c : Nat} {S : AS} {M : Mem} {P : PMem} (hS : SOK c S) (hI : MIv c M P S)  : CtI l yX10_fault cX10_fault 1 (some .int) 5 113 77 [vR 45] M P (mQ c M P S (fun r => r = faultS S)) := by
  refine Ct_of (own := RX10) (L := [vR 45]) (by decide) rfl rfl (Nat.le_of_ble_eq_true rfl) (fun X Y hl hC hQ => ?_)
  obtain ⟨hGr, ⟨⟨g0, g1, g2, g3, g4⟩, g5⟩, ⟨g6, g7⟩, g8, g9, ⟨g10, g11⟩, g12⟩ := id hI
  obtain ⟨s1, ⟨s2, s3, s4, s5, s6, s7, s8⟩, ⟨s9, s10, s11, s12⟩, s13, s14, s15, s16, s17, s18⟩ := id hS
  obtain ⟨m1, m2, m3, m4⟩ := id s14
  refine G_al0 hC dX10_fault_0 ?_
  refine G_callVI hC (c_X10_findFault hGr g10 g11 s1) mv_X10_170 (by first | assumption | rfl) (by omega) (by decide) rfl (by decide) dX10_fault_1 rfl (Nat.le_of_ble_eq_true rfl) rfl (fun z1 M1 P1 h1 => ?_)
  skip
  obtain ⟨rfl, r1, r3⟩ := h1
  obtain ⟨k1, k2⟩ := MIv_K hI r1
  have hr : z1 = faultS S := by
    unfold faultS
    rcases r3 with ⟨p, q1, q2, -⟩ | ⟨Q, q1, q2, -⟩
    · rw [q1]; exact q2
    · rw [q1]; exact q2
  exact G_iret hC hQ dX10_fault_4 ⟨_, rfl, rfl, hr, k1, k2⟩
def hvI (x : Int) : Int := if x = -1 then 0 else bShl 1 x
def LaI (M M1 : Mem) (g e : Nat) : Prop := (∀ b, b < g → M1 46 b = M 59 b ∧ M1 47 b = M 60 b ∧ M1 49 b = M 62 b ∧ M1 50 b = M 62 b ∧ M1 51 b = hvI (M 62 b)) ∧ (∀ b, b < e → M1 48 b = M 61 b) ∧ ∀ a, ¬ (46 ≤ a ∧ a ≤ 51) → ∀ b, M1 a b = M a b
theorem LaI_g {M M1 : Mem} {g e : Nat} (h : LaI M M1 g e) {v w : Int} (hw : w = hvI (M 62 g)) (hv : v = M 62 g) : LaI M (upM (upM (upM (upM (upM M1 46 g (M 59 g)) 47 g (M 60 g)) 49 g (M 62 g)) 50 g v) 51 g w) (g + 1) e := by
  obtain ⟨h1, h2, h3⟩ := h
  refine ⟨fun b hb => ?_, fun b hb => by rw [upM_ne (by omega), upM_ne (by omega), upM_ne (by omega), upM_ne (by omega), upM_ne (by omega)]; exact h2 b hb, fun a ha b => by rw [upM_ne (by omega), upM_ne (by omega), upM_ne (by omega), upM_ne (by omega), upM_ne (by omega)]; exact h3 a ha b⟩
  by_cases q : b = g
  · subst q
    refine ⟨by simp [upM], by simp [upM], by simp [upM], by simp [upM, hv], by simp [upM, hw]⟩
  · obtain ⟨c1, c2, c3, c4, c5⟩ := h1 b (by omega)
    refine ⟨by simp [upM, q, c1], by simp [upM, q, c2], by simp [upM, q, c3], by simp [upM, q, c4], by simp [upM, q, c5]⟩
theorem LaI_d {M M1 : Mem} {g e : Nat} (h : LaI M M1 g e) : LaI M (upM M1 48 e (M 61 e)) g (e + 1) := by
  obtain ⟨h1, h2, h3⟩ := h
  refine ⟨fun b hb => by rw [upM_ne (by omega), upM_ne (by omega), upM_ne (by omega), upM_ne (by omega), upM_ne (by omega)]; exact h1 b hb, fun b hb => ?_, fun a ha b => by rw [upM_ne (by omega)]; exact h3 a ha b⟩
  by_cases q : b = e
  · subst q; rw [upM_self]
  · rw [upM_nej q]; exact h2 b (by omega)
def lfM (M : Mem) (r : Int) : Mem := upM (upM (upM (upM (upM M 45 0 (M 45 23)) 45 1 (M 45 24)) 45 2 r) 45 3 (M 45 26)) 45 4 (M 45 27)
def lyQ (M : Mem) (P : PMem) (n : Nat) (r : Int) : Mem → PMem → Prop := fun M' P' => P = P' ∧ ∃ M1, LaI (lfM M r) M1 n (6 * n) ∧ M' = upM (upM (upM M1 45 11 0) 45 12 0) 45 16 0
theorem lfM_o {M : Mem} {r : Int} {a : Nat} (h : a ≠ 45) (b : Nat) : lfM M r a b = M a b := by
  unfold lfM; rw [upM_ne h, upM_ne h, upM_ne h, upM_ne h, upM_ne h]
set_option maxHeartbeats 4000000 in
set_option maxRecDepth 100000 in
theorem c_X10_lays {l : Launch} {n : Nat} {r : Int} {M : Mem} {P : PMem} (hGr : GrM P) (hn : M 45 23 = (n : Int)) (hn6 : n ≤ 6) (hr : M 45 25 = r) (hr1 : r = 0 ∨ r = 1) (hnv : ∀ g, g < n → -1 ≤ M 62 g ∧ M 62 g ≤ 6) : CtV l yX10_lays cX10_lays 3 none 0 0 77 [vR 45] M P (lyQ M P n r) := by
  refine Ct_of (own := RX10) (L := [vR 45, vX 1, vX 1]) (by decide) rfl rfl (Nat.le_of_ble_eq_true rfl) (fun X Y hl hC hQ => ?_)
  have hnn : ∀ (M1 : Mem) (g e : Nat), LaI (lfM M r) M1 g e → M1 45 0 = (n : Int) := fun M1 g e h => by
    rw [h.2.2 45 (by omega)]; unfold lfM
    rw [upM_nej (by omega), upM_nej (by omega), upM_nej (by omega), upM_nej (by omega), upM_self]; exact hn
  have eo : ∀ (M1 : Mem) (g e a : Nat), LaI (lfM M r) M1 g e → 59 ≤ a → ∀ b, M1 a b = M a b := fun M1 g e a h ha b => by
    rw [h.2.2 a (by omega), lfM_o (by omega)]
  have hlD : ∀ (g : Nat), g < n → (∀ (gv : Int) (M1 : Mem) (x2 : AV), gv = (g : Int) + 1 → LaI (lfM M r) M1 (g + 1) (6 * (g + 1)) → G X Y 51 [vR 45, vI gv, x2] [] M1 P) → ∀ (c d : Nat) (dv : Int) (M1 : Mem), d + c = 6 → dv = (d : Int) → LaI (lfM M r) M1 (g + 1) (6 * g + d) → G X Y 137 [vR 45, vI g, vI dv] [] M1 P := by
    intro g hg hnext c
    induction c with
    | zero =>
      intro d dv M1 hd e1 hL
      subst e1
      have : d = 6 := by omega
      subst this
      refine G_il2 hC dX10_lays_137 ?_
      refine G_bipush hC dX10_lays_138 (by decide) ?_
      refine G_icmp_ge (tgt := 171) hC dX10_lays_140 (by decide) (by omega) (by omega) (fun c140 => ?_) (fun c140 => ?_)
      · refine G_inc1 hC dX10_lays_171 rfl ?_
        refine G_goto (tgt := 51) hC dX10_lays_174 (by decide) ?_
        exact hnext _ _ _ rfl hL
      · exact absurd c140 (by omega)
    | succ c ih =>
      intro d dv M1 hd e1 hL
      subst e1
      refine G_il2 hC dX10_lays_137 ?_
      refine G_bipush hC dX10_lays_138 (by decide) ?_
      refine G_icmp_ge (tgt := 171) hC dX10_lays_140 (by decide) (by omega) (by omega) (fun c140 => ?_) (fun c140 => ?_)
      · exact absurd c140 (by omega)
      · refine G_al0 hC dX10_lays_143 ?_
        refine G_getR hC fl_X10_16 (by first | assumption | rfl) (by omega) (by first | assumption | exact hGr _ _ rfl) dX10_lays_144 ?_
        refine G_bipush hC dX10_lays_147 (by decide) ?_
        refine G_il1 hC dX10_lays_149 ?_
        refine G_imul hC dX10_lays_150 ?_
        refine G_il2 hC dX10_lays_151 ?_
        refine G_iadd hC dX10_lays_152 ?_
        refine G_al0 hC dX10_lays_153 ?_
        refine G_getR hC fl_X10_55 (by first | assumption | rfl) (by omega) (by first | assumption | exact hGr _ _ rfl) dX10_lays_154 ?_
        refine G_bipush hC dX10_lays_157 (by decide) ?_
        refine G_il1 hC dX10_lays_159 ?_
        refine G_imul hC dX10_lays_160 ?_
        refine G_il2 hC dX10_lays_161 ?_
        refine G_iadd hC dX10_lays_162 ?_
        refine G_ialoadN (n := 6 * g + d) hC (by first | assumption | rfl) (by omega) (by omega) (by omega) dX10_lays_163 ?_
        refine G_iastoreN (n := 6 * g + d) hC (by first | assumption | rfl) (by omega) (by omega) (by omega) dX10_lays_164 ?_
        refine G_inc2 hC dX10_lays_165 rfl ?_
        refine G_goto (tgt := 137) hC dX10_lays_168 (by decide) ?_
        have hL3 := LaI_d hL
        rw [lfM_o (by omega), ← eo M1 _ _ 61 hL (by omega)] at hL3
        exact ih (d + 1) _ _ (by omega) (by omega) hL3
  have hlG : ∀ (c g : Nat) (gv : Int) (M1 : Mem) (x2 : AV), g + c = n → gv = (g : Int) → LaI (lfM M r) M1 g (6 * g) → G X Y 51 [vR 45, vI gv, x2] [] M1 P := by
    intro c
    induction c with
    | zero =>
      intro g gv M1 x2 hg e1 hL
      subst e1
      have : g = n := by omega
      subst this
      have h0 := hnn M1 _ _ hL
      refine G_il1 hC dX10_lays_51 ?_
      refine G_al0 hC dX10_lays_52 ?_
      refine G_getI hC fl_X10_116 (by first | assumption | rfl) (by omega) dX10_lays_53 ?_
      rw [h0]
      refine G_icmp_ge (tgt := 177) hC dX10_lays_56 (by decide) (by omega) (by omega) (fun c56 => ?_) (fun c56 => ?_)
      · refine G_al0 hC dX10_lays_177 ?_
        refine G_iconst hC dX10_lays_178 ?_
        refine G_putI hC fl_X10_183 (by first | assumption | rfl) (by omega) dX10_lays_179 ?_
        refine G_al0 hC dX10_lays_182 ?_
        refine G_iconst hC dX10_lays_183 ?_
        refine G_putI hC fl_X10_186 (by first | assumption | rfl) (by omega) dX10_lays_184 ?_
        refine G_al0 hC dX10_lays_187 ?_
        refine G_iconst hC dX10_lays_188 ?_
        refine G_putI hC fl_X10_189 (by first | assumption | rfl) (by omega) dX10_lays_189 ?_
        exact G_vret hC hQ dX10_lays_192 ⟨rfl, rfl, _, hL, rfl⟩
      · exact absurd c56 (by omega)
    | succ c ih =>
      intro g gv M1 x2 hg e1 hL
      subst e1
      have h0 := hnn M1 _ _ hL
      have h62 := hnv g (by omega)
      have x59 := eo M1 _ _ 59 hL (by omega) g
      have x60 := eo M1 _ _ 60 hL (by omega) g
      have x62 := eo M1 _ _ 62 hL (by omega) g
      have y59 : lfM M r 59 g = M 59 g := lfM_o (by omega) g
      have y60 : lfM M r 60 g = M 60 g := lfM_o (by omega) g
      have y62 : lfM M r 62 g = M 62 g := lfM_o (by omega) g
      have hstep : ∀ w : Int, w = hvI (M 62 g) → G X Y 135 [vR 45, vI g, x2] [] (upM (upM (upM (upM (upM M1 46 g (M 59 g)) 47 g (M 60 g)) 49 g (M 62 g)) 50 g (M 62 g)) 51 g w) P := by
        intro w hw
        have hL2 := LaI_g hL (v := M 62 g) (w := w) (by rw [y62]; exact hw) y62.symm
        rw [y59, y60, y62] at hL2
        refine G_iconst hC dX10_lays_135 ?_
        refine G_is2 hC dX10_lays_136 rfl ?_
        exact hlD g (by omega) (fun gv M3 x2 e1 hL3 => ih (g + 1) _ _ _ (by omega) e1 hL3) 6 0 _ _ (by omega) rfl hL2
      refine G_il1 hC dX10_lays_51 ?_
      refine G_al0 hC dX10_lays_52 ?_
      refine G_getI hC fl_X10_116 (by first | assumption | rfl) (by omega) dX10_lays_53 ?_
      rw [h0]
      refine G_icmp_ge (tgt := 177) hC dX10_lays_56 (by decide) (by omega) (by omega) (fun c56 => ?_) (fun c56 => ?_)
      · exact absurd c56 (by omega)
      · refine G_al0 hC dX10_lays_59 ?_
        refine G_getR hC fl_X10_7 (by first | assumption | rfl) (by omega) (by first | assumption | exact hGr _ _ rfl) dX10_lays_60 ?_
        refine G_il1 hC dX10_lays_63 ?_
        refine G_al0 hC dX10_lays_64 ?_
        refine G_getR hC fl_X10_49 (by first | assumption | rfl) (by omega) (by first | assumption | exact hGr _ _ rfl) dX10_lays_65 ?_
        refine G_il1 hC dX10_lays_68 ?_
        refine G_ialoadN (n := g) hC (by first | assumption | rfl) (by omega) (by omega) (by omega) dX10_lays_69 ?_
        rw [x59]
        refine G_iastoreN (n := g) hC (by first | assumption | rfl) (by omega) (by omega) (by omega) dX10_lays_70 ?_
        refine G_al0 hC dX10_lays_71 ?_
        refine G_getR hC fl_X10_13 (by first | assumption | rfl) (by omega) (by first | assumption | exact hGr _ _ rfl) dX10_lays_72 ?_
        refine G_il1 hC dX10_lays_75 ?_
        refine G_al0 hC dX10_lays_76 ?_
        refine G_getR hC fl_X10_52 (by first | assumption | rfl) (by omega) (by first | assumption | exact hGr _ _ rfl) dX10_lays_77 ?_
        refine G_il1 hC dX10_lays_80 ?_
        refine G_ialoadN (n := g) hC (by first | assumption | rfl) (by omega) (by omega) (by omega) dX10_lays_81 ?_
        rw [upM_ne (by omega), x60]
        refine G_iastoreN (n := g) hC (by first | assumption | rfl) (by omega) (by omega) (by omega) dX10_lays_82 ?_
        refine G_al0 hC dX10_lays_83 ?_
        refine G_getR hC fl_X10_19 (by first | assumption | rfl) (by omega) (by first | assumption | exact hGr _ _ rfl) dX10_lays_84 ?_
        refine G_il1 hC dX10_lays_87 ?_
        refine G_al0 hC dX10_lays_88 ?_
        refine G_getR hC fl_X10_58 (by first | assumption | rfl) (by omega) (by first | assumption | exact hGr _ _ rfl) dX10_lays_89 ?_
        refine G_il1 hC dX10_lays_92 ?_
        refine G_ialoadN (n := g) hC (by first | assumption | rfl) (by omega) (by omega) (by omega) dX10_lays_93 ?_
        rw [upM_ne (by omega), upM_ne (by omega), x62]
        refine G_iastoreN (n := g) hC (by first | assumption | rfl) (by omega) (by omega) (by omega) dX10_lays_94 ?_
        refine G_al0 hC dX10_lays_95 ?_
        refine G_getR hC fl_X10_22 (by first | assumption | rfl) (by omega) (by first | assumption | exact hGr _ _ rfl) dX10_lays_96 ?_
        refine G_il1 hC dX10_lays_99 ?_
        refine G_al0 hC dX10_lays_100 ?_
        refine G_getR hC fl_X10_19 (by first | assumption | rfl) (by omega) (by first | assumption | exact hGr _ _ rfl) dX10_lays_101 ?_
        refine G_il1 hC dX10_lays_104 ?_
        refine G_ialoadN (n := g) hC (by first | assumption | rfl) (by omega) (by omega) (by omega) dX10_lays_105 ?_
        rw [upM_self]
        refine G_iastoreN (n := g) hC (by first | assumption | rfl) (by omega) (by omega) (by omega) dX10_lays_106 ?_
        refine G_al0 hC dX10_lays_107 ?_
        refine G_getR hC fl_X10_25 (by first | assumption | rfl) (by omega) (by first | assumption | exact hGr _ _ rfl) dX10_lays_108 ?_
        refine G_il1 hC dX10_lays_111 ?_
        refine G_al0 hC dX10_lays_112 ?_
        refine G_getR hC fl_X10_19 (by first | assumption | rfl) (by omega) (by first | assumption | exact hGr _ _ rfl) dX10_lays_113 ?_
        refine G_il1 hC dX10_lays_116 ?_
        refine G_ialoadN (n := g) hC (by first | assumption | rfl) (by omega) (by omega) (by omega) dX10_lays_117 ?_
        rw [upM_ne (by omega), upM_self]
        refine G_iconst hC dX10_lays_118 ?_
        refine G_icmp_ne (tgt := 126) hC dX10_lays_119 (by decide) (by omega) (by omega) (fun c119 => ?_) (fun c119 => ?_)
        · refine G_iconst hC dX10_lays_126 ?_
          refine G_al0 hC dX10_lays_127 ?_
          refine G_getR hC fl_X10_19 (by first | assumption | rfl) (by omega) (by first | assumption | exact hGr _ _ rfl) dX10_lays_128 ?_
          refine G_il1 hC dX10_lays_131 ?_
          refine G_ialoadN (n := g) hC (by first | assumption | rfl) (by omega) (by omega) (by omega) dX10_lays_132 ?_
          rw [upM_ne (by omega), upM_self]
          refine G_ishl hC dX10_lays_133 ?_
          refine G_iastoreN (n := g) hC (by first | assumption | rfl) (by omega) (by omega) (by omega) dX10_lays_134 ?_
          exact hstep _ (by
            unfold hvI
            first
              | (rw [if_pos (by omega)]; done)
              | (rw [if_neg (by omega)]; done))
        · refine G_iconst hC dX10_lays_122 ?_
          refine G_goto (tgt := 134) hC dX10_lays_123 (by decide) ?_
          refine G_iastoreN (n := g) hC (by first | assumption | rfl) (by omega) (by omega) (by omega) dX10_lays_134 ?_
          exact hstep _ (by
            unfold hvI
            first
              | (rw [if_pos (by omega)]; done)
              | (rw [if_neg (by omega)]; done))
  have hL0 : LaI (lfM M r) (lfM M r) 0 (6 * 0) := ⟨fun b hb => by omega, fun b hb => by omega, fun _ _ _ => rfl⟩
  have e0 : upM (upM (upM (upM (upM M 45 0 (M 45 23)) 45 1 (upM M 45 0 (M 45 23) 45 24)) 45 2 r) 45 3 (upM (upM (upM M 45 0 (M 45 23)) 45 1 (upM M 45 0 (M 45 23) 45 24)) 45 2 r 45 26)) 45 4 (upM (upM (upM (upM M 45 0 (M 45 23)) 45 1 (upM M 45 0 (M 45 23) 45 24)) 45 2 r) 45 3 (upM (upM (upM M 45 0 (M 45 23)) 45 1 (upM M 45 0 (M 45 23) 45 24)) 45 2 r 45 26) 45 27) = lfM M r := by
    unfold lfM
    rw [show upM M 45 0 (M 45 23) 45 24 = M 45 24 from upM_nej (by omega) _, show upM (upM (upM M 45 0 (M 45 23)) 45 1 (M 45 24)) 45 2 r 45 26 = M 45 26 by rw [upM_nej (by omega), upM_nej (by omega), upM_nej (by omega)], show upM (upM (upM (upM M 45 0 (M 45 23)) 45 1 (M 45 24)) 45 2 r) 45 3 (M 45 26) 45 27 = M 45 27 by rw [upM_nej (by omega), upM_nej (by omega), upM_nej (by omega), upM_nej (by omega)]]
  refine G_al0 hC dX10_lays_0 ?_
  refine G_al0 hC dX10_lays_1 ?_
  refine G_getI hC fl_X10_109 (by first | assumption | rfl) (by omega) dX10_lays_2 ?_
  refine G_putI hC fl_X10_116 (by first | assumption | rfl) (by omega) dX10_lays_5 ?_
  refine G_al0 hC dX10_lays_8 ?_
  refine G_al0 hC dX10_lays_9 ?_
  refine G_getI hC fl_X10_134 (by first | assumption | rfl) (by omega) dX10_lays_10 ?_
  refine G_putI hC fl_X10_123 (by first | assumption | rfl) (by omega) dX10_lays_13 ?_
  refine G_al0 hC dX10_lays_16 ?_
  refine G_al0 hC dX10_lays_17 ?_
  refine G_getI hC fl_X10_137 (by first | assumption | rfl) (by omega) dX10_lays_18 ?_
  refine G_iconst hC dX10_lays_21 ?_
  rw [upM_nej (by omega), upM_nej (by omega)]
  refine G_icmp_ne (tgt := 29) hC dX10_lays_22 (by decide) (by omega) (by omega) (fun c22 => ?_) (fun c22 => ?_)
  · refine G_iconst hC dX10_lays_29 ?_
    refine G_putZ hC fl_X10_173 (by first | assumption | rfl) (by omega) (by omega) dX10_lays_30 ?_
    refine G_al0 hC dX10_lays_33 ?_
    refine G_al0 hC dX10_lays_34 ?_
    refine G_getI hC fl_X10_140 (by first | assumption | rfl) (by omega) dX10_lays_35 ?_
    refine G_putI hC fl_X10_177 (by first | assumption | rfl) (by omega) dX10_lays_38 ?_
    refine G_al0 hC dX10_lays_41 ?_
    refine G_al0 hC dX10_lays_42 ?_
    refine G_getI hC fl_X10_143 (by first | assumption | rfl) (by omega) dX10_lays_43 ?_
    refine G_putI hC fl_X10_180 (by first | assumption | rfl) (by omega) dX10_lays_46 ?_
    refine G_iconst hC dX10_lays_49 ?_
    refine G_is1 hC dX10_lays_50 rfl ?_
    have hr1 : r = 0 := by omega
    rw [hr1] at e0 hL0 hlG
    rw [e0]
    exact hlG n 0 _ _ _ (by omega) rfl hL0
  · refine G_iconst hC dX10_lays_25 ?_
    refine G_goto (tgt := 30) hC dX10_lays_26 (by decide) ?_
    refine G_putZ hC fl_X10_173 (by first | assumption | rfl) (by omega) (by omega) dX10_lays_30 ?_
    refine G_al0 hC dX10_lays_33 ?_
    refine G_al0 hC dX10_lays_34 ?_
    refine G_getI hC fl_X10_140 (by first | assumption | rfl) (by omega) dX10_lays_35 ?_
    refine G_putI hC fl_X10_177 (by first | assumption | rfl) (by omega) dX10_lays_38 ?_
    refine G_al0 hC dX10_lays_41 ?_
    refine G_al0 hC dX10_lays_42 ?_
    refine G_getI hC fl_X10_143 (by first | assumption | rfl) (by omega) dX10_lays_43 ?_
    refine G_putI hC fl_X10_180 (by first | assumption | rfl) (by omega) dX10_lays_46 ?_
    refine G_iconst hC dX10_lays_49 ?_
    refine G_is1 hC dX10_lays_50 rfl ?_
    have hr1 : r = 1 := by omega
    rw [hr1] at e0 hL0 hlG
    rw [e0]
    exact hlG n 0 _ _ _ (by omega) rfl hL0
