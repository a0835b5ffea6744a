/-! prices -/
theorem mvN_lt {M : Mem} {T : TB} {q i j : Nat} (hB : LyB M) (h : mvN M T q i j ≠ 1023) : mvN M T q i j < 720 := by
  by_cases hc : can T (dgf q) i j
  · rw [mvN_1 hc] at h ⊢; rcases numO_r hB (enc (aft T (dgf q) i j)) with r | r <;> omega
  · exact absurd (mvN_0 hc) h
def sp1 (T : TB) (mf : Nat → Nat → Nat) (pr : Int) (i j : Nat) (p : Nat → Int) : Nat → Int := if mf i j ≠ 1023 ∧ pr + hnd T i j < p (mf i j) then (fun b => if b = mf i j then pr + hnd T i j else p b) else p
def spJ (T : TB) (mf : Nat → Nat → Nat) (pr : Int) (i : Nat) : Nat → Nat → (Nat → Int) → (Nat → Int)
  | 0, _, p => p
  | c + 1, j, p => spJ T mf pr i c (j + 1) (sp1 T mf pr i j p)
def spI (T : TB) (mf : Nat → Nat → Nat) (pr : Int) : Nat → Nat → (Nat → Int) → (Nat → Int)
  | 0, _, p => p
  | c + 1, i, p => spI T mf pr c (i + 1) (spJ T mf pr i (tn T) 0 p)
def pOK (p : Nat → Int) : Prop := ∀ b, 0 ≤ p b ∧ p b ≤ 1000000
theorem hnd_le {T : TB} {i j : Nat} (hi : i < tn T) (hj : j < tn T) (hn : tn T ≤ 6) : hnd T i j ≤ 6 := by
  have h := sR_le hi hj
  unfold hnd
  split
  · split <;> omega
  · omega
theorem sp1_ok {T : TB} {mf : Nat → Nat → Nat} {pr : Int} {i j : Nat} {p : Nat → Int} (h : pOK p) (hp : 0 ≤ pr) : pOK (sp1 T mf pr i j p) := by
  unfold sp1
  split
  · rename_i q
    intro b
    have h1 := h (mf i j)
    dsimp only
    split
    · omega
    · exact h b
  · exact h
theorem spJ_ok {T : TB} {mf : Nat → Nat → Nat} {pr : Int} {i : Nat} (hp : 0 ≤ pr) : ∀ c j (p : Nat → Int), pOK p → pOK (spJ T mf pr i c j p)
  | 0, _, _, h => h
  | c + 1, j, p, h => spJ_ok hp c (j + 1) _ (sp1_ok h hp)
theorem spI_ok {T : TB} {mf : Nat → Nat → Nat} {pr : Int} (hp : 0 ≤ pr) : ∀ c i (p : Nat → Int), pOK p → pOK (spI T mf pr c i p)
  | 0, _, _, h => h
  | c + 1, i, p, h => spI_ok hp c (i + 1) _ (spJ_ok hp _ _ _ h)
def s22 : Nat → Prop := fun a => a = 22 ∨ a = 16
theorem SI_22 {M M' : Mem} {N : Nat} {T : TB} {lq : Nat → Nat} (h : SI M 15 8 4320 T N lq) (he : eqx (fun a => a = 22) M M') : SI M' 15 8 4320 T N lq := by
  obtain ⟨a1, a2, a3, a4⟩ := h
  have q : ∀ a, a ≠ 22 → ∀ b, M' a b = M a b := fun a h => he a h
  exact ⟨TabR_congr a1 (q 8 (by omega)) (q 9 (by omega)) (q 11 (by omega)), LyI_congr a2 (q 12 (by omega)) (q 13 (by omega)) (q 14 (by omega)), RwI_congr a3 (q 13 (by omega)) (q 14 (by omega)) (q 16 (by omega)), a4⟩
def sdQ (M : Mem) (P : PMem) (N : Nat) (T : TB) (lq : Nat → Nat) (p' : Nat → Int) : Mem → PMem → Prop := fun M' P' => P = P' ∧ SI M' 15 8 4320 T N lq ∧ eqx s22 M M' ∧ ∀ b, b < 720 → M' 22 b = p' b
theorem isT8 : isT 8 := Or.inr (Or.inl rfl)
theorem isMv15 : isMv 15 8 4320 := Or.inl ⟨rfl, rfl, rfl⟩
theorem sp1_mem {M : Mem} {T : TB} {mf : Nat → Nat → Nat} {pr : Int} {i j : Nat} {p : Nat → Int} (h : ∀ b, b < 720 → M 22 b = p b) (h1 : mf i j ≠ 1023) (h2 : pr + hnd T i j < p (mf i j)) (b : Nat) (hb : b < 720) : upM M 22 (mf i j) (pr + hnd T i j) 22 b = sp1 T mf pr i j p b := by
  unfold sp1
  rw [if_pos ⟨h1, h2⟩]
  simp only [upM]
  split
  · rename_i z; rw [if_pos z.2]
  · rename_i z; rw [if_neg (fun q => z ⟨trivial, q⟩)]; exact h b hb
set_option maxHeartbeats 4000000 in
set_option maxRecDepth 100000 in
theorem c_X6_spreadPrice {l : Launch} {N l0 : Nat} {T : TB} {lq : Nat → Nat} {pr : Int} {p : Nat → Int} {M : Mem} {P : PMem} (hGr : Gr P) (hS : SI M 15 8 4320 T N lq) (hl0 : l0 < N) (hpr : 0 ≤ pr ∧ pr ≤ 1000) (hp : ∀ b, b < 720 → M 22 b = p b) (hok : pOK p) : CtV l yX6_spreadPrice cX6_spreadPrice 9 none 4 108 45 [vR 21, vI l0, vI pr] M P (sdQ M P N T lq (spI T (fun i j => mvN M T (lq l0) i j) pr (tn T) 0 p)) := by
  refine Ct_of (own := RX6) (L := [vR 21, vI l0, vI pr, vX 1, vX 1, vX 1, vX 1, vX 1, vX 1]) (by decide) rfl rfl (Nat.le_of_ble_eq_true rfl) (fun X Y hl hC hQ => ?_)
  have hR := hS.1
  obtain ⟨hR0, hR2, hR6, hRr, hRr1, hRk, hRw⟩ := id hR
  have hN7 := hS.2.1.2.2.1
  have hgR : ∀ M1 : Mem, eqx s22 M M1 → M1 8 0 = (tn T : Int) := fun M1 h => by rw [h 8 (by unfold s22; omega)]; exact hR0
  have hmvc : ∀ M1 : Mem, eqx s22 M M1 → ∀ i j, mvN M1 T (lq l0) i j = mvN M T (lq l0) i j := fun M1 h i j => mvN_congr (h 13 (by unfold s22; omega)) (h 14 (by unfold s22; omega))
  have hlJ : ∀ (i : Nat) (pz : Nat → Int), i < tn T → (∀ (M2 : Mem) (iv : Int) (x4 x5 x6 x7 x8 : AV), SI M2 15 8 4320 T N lq → eqx s22 M M2 → (∀ b, b < 720 → M2 22 b = spJ T (fun i j => mvN M T (lq l0) i j) pr i (tn T) 0 pz b) → iv = (i : Int) → G X Y 110 [vR 21, vI l0, vI pr, vI iv, x4, x5, x6, x7, x8] [] M2 P) → ∀ (c j : Nat) (M1 : Mem) (iv jv rv : Int) (p1 : Nat → Int) (x7 x8 : AV), j + c = tn T → SI M1 15 8 4320 T N lq → eqx s22 M M1 → (∀ b, b < 720 → M1 22 b = p1 b) → pOK p1 → spJ T (fun i j => mvN M T (lq l0) i j) pr i c j p1 = spJ T (fun i j => mvN M T (lq l0) i j) pr i (tn T) 0 pz → iv = (i : Int) → jv = (j : Int) → rv = (rrC (fun j => mvN M T (lq l0) i j) 6 : Int) → G X Y 30 [vR 21, vI l0, vI pr, vI iv, vL rv, vX 1, vI jv, x7, x8] [] M1 P := by
    intro i pz hi hnext c
    have hto : ∀ j, (fun j => mvN M T (lq l0) i j) j ≤ 1023 := fun j => mvN_le hS.2.1.1
    induction c with
    | zero =>
      intro j M1 iv jv rv p1 x7 x8 hj hS1 hx1 hp1 hok he e1 e2 e3
      subst e1; subst e2; subst e3
      have hg := hgR M1 hx1
      refine G_il6 hC dX6_spreadPrice_30 ?_
      refine G_al0 hC dX6_spreadPrice_32 ?_
      refine G_getR hC fl_X6_22 (by first | assumption | rfl) (by omega) (by first | assumption | exact hGr _ _ _ rfl) dX6_spreadPrice_33 ?_
      refine G_getR hC fl_X6_53 (by first | assumption | rfl) (by omega) (by first | assumption | exact hGr _ _ _ rfl) dX6_spreadPrice_36 ?_
      refine G_getI hC fl_X6_74 (by first | assumption | rfl) (by omega) dX6_spreadPrice_39 ?_
      refine G_icmp_ge (tgt := 110) hC dX6_spreadPrice_42 (by decide) (by omega) (by omega) (fun c42 => ?_) (fun c42 => ?_)
      · exact hnext M1 _ _ _ _ _ _ hS1 hx1 (fun b hb => by rw [← he]; exact hp1 b hb) rfl
      · exact absurd c42 (by omega)
    | succ c ih =>
      intro j M1 iv jv rv p1 x7 x8 hj hS1 hx1 hp1 hok he e1 e2 e3
      subst e1; subst e2; subst e3
      have hg := hgR M1 hx1
      have htj : mvN M T (lq l0) i j ≤ 1023 := hto j
      have hlt := fun (h : mvN M T (lq l0) i j ≠ 1023) => mvN_lt hS.2.1.1 h
      have hh6 := hnd_le (i := i) (j := j) hi (by omega) hR6
      have hpj := hok (mvN M T (lq l0) i j)
      refine G_il6 hC dX6_spreadPrice_30 ?_
      refine G_al0 hC dX6_spreadPrice_32 ?_
      refine G_getR hC fl_X6_22 (by first | assumption | rfl) (by omega) (by first | assumption | exact hGr _ _ _ rfl) dX6_spreadPrice_33 ?_
      refine G_getR hC fl_X6_53 (by first | assumption | rfl) (by omega) (by first | assumption | exact hGr _ _ _ rfl) dX6_spreadPrice_36 ?_
      refine G_getI hC fl_X6_74 (by first | assumption | rfl) (by omega) dX6_spreadPrice_39 ?_
      refine G_icmp_ge (tgt := 110) hC dX6_spreadPrice_42 (by decide) (by omega) (by omega) (fun c42 => ?_) (fun c42 => ?_)
      · exact absurd c42 (by omega)
      · refine G_ll4 hC dX6_spreadPrice_45 ?_
        refine G_il6 hC dX6_spreadPrice_47 ?_
        refine G_callSI hC (c_X3_target hto (by omega)) ms_X6_81 (by decide) rfl (by decide) dX6_spreadPrice_49 rfl (Nat.le_of_ble_eq_true rfl) rfl (fun z49 M49 P49 h49 => ?_)
        obtain ⟨rfl, rfl, rfl⟩ := h49
        refine G_is7 hC dX6_spreadPrice_52 rfl ?_
        refine G_il2 hC dX6_spreadPrice_54 ?_
        refine G_al0 hC dX6_spreadPrice_55 ?_
        refine G_getR hC fl_X6_22 (by first | assumption | rfl) (by omega) (by first | assumption | exact hGr _ _ _ rfl) dX6_spreadPrice_56 ?_
        refine G_getR hC fl_X6_53 (by first | assumption | rfl) (by omega) (by first | assumption | exact hGr _ _ _ rfl) dX6_spreadPrice_59 ?_
        refine G_il3 hC dX6_spreadPrice_62 ?_
        refine G_il6 hC dX6_spreadPrice_63 ?_
        refine G_callVI hC (c_X7_stepsBetween hGr isT8 hS1.1 hi (by omega)) mv_X6_85 (by first | assumption | rfl) (by omega) (by decide) rfl (by decide) dX6_spreadPrice_65 rfl (Nat.le_of_ble_eq_true rfl) rfl (fun z65 M65 P65 h65 => ?_)
        obtain ⟨rfl, rfl, rfl⟩ := h65
        refine G_iadd hC dX6_spreadPrice_68 ?_
        refine G_is8 hC dX6_spreadPrice_69 rfl ?_
        refine G_il7 hC dX6_spreadPrice_71 ?_
        refine G_sipush hC dX6_spreadPrice_73 (by decide) ?_
        refine G_icmp_eq (tgt := 104) hC dX6_spreadPrice_76 (by decide) (by omega) (by omega) (fun c76 => ?_) (fun c76 => ?_)
        · refine G_inc6 hC dX6_spreadPrice_104 rfl ?_
          refine G_goto (tgt := 30) hC dX6_spreadPrice_107 (by decide) ?_
          exact ih (j + 1) _ _ _ _ (sp1 T (fun i j => mvN M T (lq l0) i j) pr i j p1) _ _ (by omega) hS1 hx1 (fun b hb => by rw [hp1 b hb]; unfold sp1; rw [if_neg (by dsimp only; omega)]) (sp1_ok hok hpr.1) he rfl (by omega) rfl
        · refine G_il8 hC dX6_spreadPrice_79 ?_
          refine G_al0 hC dX6_spreadPrice_81 ?_
          refine G_getR hC fl_X6_9 (by first | assumption | rfl) (by omega) (by first | assumption | exact hGr _ _ _ rfl) dX6_spreadPrice_82 ?_
          refine G_il7 hC dX6_spreadPrice_85 ?_
          refine G_callSI hC (c_atN (z := 720) rfl (by omega) (hlt (by omega))) ms_X6_66 (by decide) rfl (by decide) dX6_spreadPrice_87 rfl (Nat.le_of_ble_eq_true rfl) rfl (fun z87 M87 P87 h87 => ?_)
          obtain ⟨rfl, rfl, rfl⟩ := h87
          refine G_icmp_ge (tgt := 104) hC dX6_spreadPrice_90 (by decide) (by omega) (by rw [hp1 _ (hlt (by omega))]; omega) (fun c90 => ?_) (fun c90 => ?_)
          · refine G_inc6 hC dX6_spreadPrice_104 rfl ?_
            refine G_goto (tgt := 30) hC dX6_spreadPrice_107 (by decide) ?_
            exact ih (j + 1) _ _ _ _ (sp1 T (fun i j => mvN M T (lq l0) i j) pr i j p1) _ _ (by omega) hS1 hx1 (fun b hb => by rw [hp1 b hb]; unfold sp1; rw [if_neg (by rw [hp1 _ (hlt (by omega))] at c90; dsimp only; omega)]) (sp1_ok hok hpr.1) he rfl (by omega) rfl
          · refine G_al0 hC dX6_spreadPrice_93 ?_
            refine G_getR hC fl_X6_9 (by first | assumption | rfl) (by omega) (by first | assumption | exact hGr _ _ _ rfl) dX6_spreadPrice_94 ?_
            refine G_il7 hC dX6_spreadPrice_97 ?_
            refine G_il8 hC dX6_spreadPrice_99 ?_
            refine G_callSV hC (c_putN (z := 720) rfl (by omega) (hlt (by omega))) ms_X6_33 (by decide) rfl (by decide) dX6_spreadPrice_101 rfl (Nat.le_of_ble_eq_true rfl) rfl (fun M101 P101 h101 => ?_)
            obtain ⟨rfl, rfl⟩ := h101
            refine G_inc6 hC dX6_spreadPrice_104 rfl ?_
            refine G_goto (tgt := 30) hC dX6_spreadPrice_107 (by decide) ?_
            exact ih (j + 1) _ _ _ _ (sp1 T (fun i j => mvN M T (lq l0) i j) pr i j p1) _ _ (by omega) (SI_22 hS1 (eqx_up rfl)) (hx1.trans (eqx_up (Or.inl rfl))) (sp1_mem hp1 (by omega) (by rw [hp1 _ (hlt (by omega))] at c90; exact c90)) (sp1_ok hok hpr.1) he rfl (by omega) rfl
  have hlI : ∀ (c i : Nat) (M1 : Mem) (iv : Int) (p1 : Nat → Int) (x4 x5 x6 x7 x8 : AV), i + c = tn T → SI M1 15 8 4320 T N lq → eqx s22 M M1 → (∀ b, b < 720 → M1 22 b = p1 b) → pOK p1 → spI T (fun i j => mvN M T (lq l0) i j) pr c i p1 = spI T (fun i j => mvN M T (lq l0) i j) pr (tn T) 0 p → iv = (i : Int) → G X Y 2 [vR 21, vI l0, vI pr, vI iv, x4, x5, x6, x7, x8] [] M1 P := by
    intro c
    induction c with
    | zero =>
      intro i M1 iv p1 x4 x5 x6 x7 x8 hi hS1 hx1 hp1 hok he e1
      subst e1
      have hg := hgR M1 hx1
      refine G_il3 hC dX6_spreadPrice_2 ?_
      refine G_al0 hC dX6_spreadPrice_3 ?_
      refine G_getR hC fl_X6_22 (by first | assumption | rfl) (by omega) (by first | assumption | exact hGr _ _ _ rfl) dX6_spreadPrice_4 ?_
      refine G_getR hC fl_X6_53 (by first | assumption | rfl) (by omega) (by first | assumption | exact hGr _ _ _ rfl) dX6_spreadPrice_7 ?_
      refine G_getI hC fl_X6_74 (by first | assumption | rfl) (by omega) dX6_spreadPrice_10 ?_
      refine G_icmp_ge (tgt := 116) hC dX6_spreadPrice_13 (by decide) (by omega) (by omega) (fun c13 => ?_) (fun c13 => ?_)
      · exact G_vret hC hQ dX6_spreadPrice_116 ⟨rfl, rfl, hS1, hx1, fun b hb => by rw [← he]; exact hp1 b hb⟩
      · exact absurd c13 (by omega)
    | succ c ih =>
      intro i M1 iv p1 x4 x5 x6 x7 x8 hi hS1 hx1 hp1 hok he e1
      subst e1
      have hg := hgR M1 hx1
      obtain ⟨hS2, hx2⟩ := SI_ro (k := l0) (i := i) isMv15 hS1 (by omega) (by omega)
      have hq2 : ∀ a, a ≠ 16 → ∀ b, roM M1 15 4320 T l0 i a b = M1 a b := fun a h => hx2 a h
      have hlk : (M1 13 l0).toNat = lq l0 := by rw [(hS1.2.1.2.2.2.1 l0 hl0).1]; omega
      have h110 : ∀ (M2 : Mem) (iv : Int) (x4 x5 x6 x7 x8 : AV), iv = (i : Int) → G X Y 2 [vR 21, vI l0, vI pr, vI ((i : Int) + 1), x4, x5, x6, x7, x8] [] M2 P → G X Y 110 [vR 21, vI l0, vI pr, vI iv, x4, x5, x6, x7, x8] [] M2 P := by
        intro M2 iv x4 x5 x6 x7 x8 e hg
        subst e
        refine G_inc3 hC dX6_spreadPrice_110 rfl ?_
        refine G_goto (tgt := 2) hC dX6_spreadPrice_113 (by decide) ?_
        exact hg
      refine G_il3 hC dX6_spreadPrice_2 ?_
      refine G_al0 hC dX6_spreadPrice_3 ?_
      refine G_getR hC fl_X6_22 (by first | assumption | rfl) (by omega) (by first | assumption | exact hGr _ _ _ rfl) dX6_spreadPrice_4 ?_
      refine G_getR hC fl_X6_53 (by first | assumption | rfl) (by omega) (by first | assumption | exact hGr _ _ _ rfl) dX6_spreadPrice_7 ?_
      refine G_getI hC fl_X6_74 (by first | assumption | rfl) (by omega) dX6_spreadPrice_10 ?_
      refine G_icmp_ge (tgt := 116) hC dX6_spreadPrice_13 (by decide) (by omega) (by omega) (fun c13 => ?_) (fun c13 => ?_)
      · exact absurd c13 (by omega)
      · refine G_al0 hC dX6_spreadPrice_16 ?_
        refine G_getR hC fl_X6_22 (by first | assumption | rfl) (by omega) (by first | assumption | exact hGr _ _ _ rfl) dX6_spreadPrice_17 ?_
        refine G_il1 hC dX6_spreadPrice_20 ?_
        refine G_il3 hC dX6_spreadPrice_21 ?_
        refine G_callVL hC (c_X3_rowOf hGr isMv15 hS1.1 hS1.2.1.1 (by omega) (by omega) (hS1.2.2.1 l0 i (by omega) (by omega))) mv_X6_77 (by first | assumption | rfl) (by omega) (by decide) rfl (by decide) dX6_spreadPrice_22 rfl (Nat.le_of_ble_eq_true rfl) rfl (fun z22 M22 P22 h22 => ?_)
        obtain ⟨rfl, rfl, rfl⟩ := h22
        refine G_ls4 hC dX6_spreadPrice_25 rfl ?_
        refine G_iconst hC dX6_spreadPrice_27 ?_
        refine G_is6 hC dX6_spreadPrice_28 rfl ?_
        exact hlJ i p1 (by omega) (fun M2 iv x4 x5 x6 x7 x8 g1 g2 g3 g4 => h110 M2 iv x4 x5 x6 x7 x8 g4 (ih (i + 1) M2 _ _ _ _ _ _ _ (by omega) g1 g2 g3 (spJ_ok hpr.1 _ _ _ hok) he (by omega))) (tn T) 0 _ _ _ _ p1 _ _ (by omega) hS2 (hx1.trans (hx2.mono (fun a h => Or.inr h))) (fun b hb => by rw [hq2 22 (by omega)]; exact hp1 b hb) hok rfl rfl rfl (by rw [hlk]; simp only [hmvc M1 hx1])
  refine G_iconst hC dX6_spreadPrice_0 ?_
  refine G_is3 hC dX6_spreadPrice_1 rfl ?_
  exact hlI (tn T) 0 M _ p _ _ _ _ _ (by omega) hS eqx.refl hp hok rfl rfl
theorem SI_s22 {M M' : Mem} {N : Nat} {T : TB} {lq : Nat → Nat} (h : SI M 15 8 4320 T N lq) (h2 : SI M' 15 8 4320 T N lq) (he : eqx s22 M M') {q i j : Nat} : mvN M' T q i j = mvN M T q i j := mvN_congr (he 13 (by unfold s22; omega)) (he 14 (by unfold s22; omega))
noncomputable def lpL (T : TB) (mf : Nat → Nat → Nat → Nat) (lq : Nat → Nat) (g d : Nat) (pr : Int) : Nat → Nat → (Nat → Int) → Option (Nat → Int)
  | 0, _, p => some p
  | c + 1, l, p => if p l = pr then (if dgf (lq l) g = d then none else lpL T mf lq g d pr c (l + 1) (spI T (mf l) pr (tn T) 0 p)) else lpL T mf lq g d pr c (l + 1) p
noncomputable def lpP (T : TB) (mf : Nat → Nat → Nat → Nat) (lq : Nat → Nat) (N g d : Nat) : Nat → Int → (Nat → Int) → Int
  | 0, pr, _ => pr
  | c + 1, pr, p => match lpL T mf lq g d pr N 0 p with
    | none => pr
    | some p' => lpP T mf lq N g d c (pr + 1) p'
def p0F (l0 : Nat) : Nat → Int := fun b => if b = l0 then 0 else 1000000
noncomputable def lpR (T : TB) (mf : Nat → Nat → Nat → Nat) (lq : Nat → Nat) (N g d l0 sv : Nat) : Int := if dgf (lq l0) g = d then 0 else lpP T mf lq N g d sv 0 (p0F l0)
def lpQ (M : Mem) (P : PMem) (N : Nat) (T : TB) (lq : Nat → Nat) (r0 : Int) : Int → Mem → PMem → Prop := fun r M' P' => P = P' ∧ SI M' 15 8 4320 T N lq ∧ eqx s22 M M' ∧ r = r0
theorem lpL_ok {T : TB} {mf : Nat → Nat → Nat → Nat} {lq : Nat → Nat} {g d : Nat} {pr : Int} (hp : 0 ≤ pr) : ∀ c l (p p' : Nat → Int), pOK p → lpL T mf lq g d pr c l p = some p' → pOK p'
  | 0, l, p, p', h, e => by cases e; exact h
  | c + 1, l, p, p', h, e => by
    unfold lpL at e
    split at e
    · split at e
      · cases e
      · exact lpL_ok hp c (l + 1) _ p' (spI_ok hp _ _ _ h) e
    · exact lpL_ok hp c (l + 1) p p' h e
theorem p0_mem {M : Mem} {l0 : Nat} (b : Nat) (hb : b < 720) : upM (flM M 22 1000000 720) 22 l0 0 22 b = p0F l0 b := by
  unfold p0F
  simp only [upM]
  by_cases hb0 : b = l0
  · rw [if_pos ⟨trivial, hb0⟩, if_pos hb0]
  · rw [if_neg (fun q => hb0 q.2), if_neg hb0]
    unfold flM
    rw [if_pos ⟨rfl, hb⟩]
theorem p0F_ok (l0 : Nat) : pOK (p0F l0) := by intro b; unfold p0F; split <;> omega
set_option maxHeartbeats 4000000 in
set_option maxRecDepth 100000 in
theorem c_X6_leastPrice {l : Launch} {N l0 g d sv : Nat} {T : TB} {lq : Nat → Nat} {M : Mem} {P : PMem} (hGr : Gr P) (hS : SI M 15 8 4320 T N lq) (hl0 : l0 < N) (hg : g < 6) (hd : d < 8) (hsv : M 8 3 = (sv : Int)) (hsv9 : sv ≤ 99) : CtI l yX6_leastPrice cX6_leastPrice 6 (some .int) 5 136 45 [vR 21, vI l0, vI g, vI d] M P (lpQ M P N T lq (lpR T (fun l i j => mvN M T (lq l) i j) lq N g d l0 sv)) := by
  refine Ct_of (own := RX6) (L := [vR 21, vI l0, vI g, vI d, vX 1, vX 1]) (by decide) rfl rfl (Nat.le_of_ble_eq_true rfl) (fun X Y hl hC hQ => ?_)
  have hR := hS.1
  obtain ⟨hR0, hR2, hR6, hRr, hRr1, hRk, hRw⟩ := id hR
  have hN7 := hS.2.1.2.2.1
  have hsv' : ∀ M1 : Mem, eqx s22 M M1 → M1 8 3 = (sv : Int) := fun M1 h => by rw [h 8 (by unfold s22; omega)]; exact hsv
  have hsz' : ∀ M1 : Mem, eqx s22 M M1 → M1 12 0 = (N : Int) := fun M1 h => by rw [h 12 (by unfold s22; omega)]; exact hS.2.1.2.1
  have h13 : ∀ M1 : Mem, eqx s22 M M1 → ∀ l, l < N → M1 13 l = ((enc (dgf (lq l)) : Nat) : Int) := fun M1 h l hl => by rw [h 13 (by unfold s22; omega), (hS.2.1.2.2.2.1 l hl).1, enc_dgf (hS.2.1.lt hl)]
  have hmvc : ∀ M1 : Mem, eqx s22 M M1 → (fun l i j => mvN M1 T (lq l) i j) = fun l i j => mvN M T (lq l) i j := fun M1 h => by funext l i j; exact mvN_congr (h 13 (by unfold s22; omega)) (h 14 (by unfold s22; omega))
  have hlL : ∀ (pr : Nat) (r0 : Int), pr < sv → r0 = lpR T (fun l i j => mvN M T (lq l) i j) lq N g d l0 sv → ∀ (pz : Nat → Int), (lpL T (fun l i j => mvN M T (lq l) i j) lq g d pr N 0 pz = none → r0 = pr) → (∀ (M2 : Mem) (p2 : Nat → Int) (prv : Int) (x5 : AV), lpL T (fun l i j => mvN M T (lq l) i j) lq g d pr N 0 pz = some p2 → SI M2 15 8 4320 T N lq → eqx s22 M M2 → (∀ b, b < 720 → M2 22 b = p2 b) → pOK p2 → prv = (pr : Int) → G X Y 126 [vR 21, vI l0, vI g, vI d, vI prv, x5] [] M2 P) → ∀ (c l : Nat) (M1 : Mem) (p1 : Nat → Int) (prv lv : Int), l + c = N → SI M1 15 8 4320 T N lq → eqx s22 M M1 → (∀ b, b < 720 → M1 22 b = p1 b) → pOK p1 → lpL T (fun l i j => mvN M T (lq l) i j) lq g d pr c l p1 = lpL T (fun l i j => mvN M T (lq l) i j) lq g d pr N 0 pz → prv = (pr : Int) → lv = (l : Int) → G X Y 60 [vR 21, vI l0, vI g, vI d, vI prv, vI lv] [] M1 P := by
    intro pr r0 hprs hr0 pz hnone hsome c
    induction c with
    | zero =>
      intro l M1 p1 prv lv hl hS1 hx1 hp1 hok he e1 e2
      subst e1; subst e2
      have hsz := hsz' M1 hx1
      refine G_il5 hC dX6_leastPrice_60 ?_
      refine G_al0 hC dX6_leastPrice_62 ?_
      refine G_getR hC fl_X6_22 (by first | assumption | rfl) (by omega) (by first | assumption | exact hGr _ _ _ rfl) dX6_leastPrice_63 ?_
      refine G_getR hC fl_X6_37 (by first | assumption | rfl) (by omega) (by first | assumption | exact hGr _ _ _ rfl) dX6_leastPrice_66 ?_
      refine G_getI hC fl_X6_63 (by first | assumption | rfl) (by omega) dX6_leastPrice_69 ?_
      refine G_icmp_ge (tgt := 126) hC dX6_leastPrice_72 (by decide) (by omega) (by omega) (fun c72 => ?_) (fun c72 => ?_)
      · exact hsome M1 p1 _ _ (by rw [← he]; rfl) hS1 hx1 hp1 hok rfl
      · exact absurd c72 (by omega)
    | succ c ih =>
      intro l M1 p1 prv lv hl hS1 hx1 hp1 hok he e1 e2
      subst e1; subst e2
      have hsz := hsz' M1 hx1
      have hpl := hok l
      have hdl := dgf_lo (lq l) g
      rw [lpL] at he
      refine G_il5 hC dX6_leastPrice_60 ?_
      refine G_al0 hC dX6_leastPrice_62 ?_
      refine G_getR hC fl_X6_22 (by first | assumption | rfl) (by omega) (by first | assumption | exact hGr _ _ _ rfl) dX6_leastPrice_63 ?_
      refine G_getR hC fl_X6_37 (by first | assumption | rfl) (by omega) (by first | assumption | exact hGr _ _ _ rfl) dX6_leastPrice_66 ?_
      refine G_getI hC fl_X6_63 (by first | assumption | rfl) (by omega) dX6_leastPrice_69 ?_
      refine G_icmp_ge (tgt := 126) hC dX6_leastPrice_72 (by decide) (by omega) (by omega) (fun c72 => ?_) (fun c72 => ?_)
      · exact absurd c72 (by omega)
      · refine G_al0 hC dX6_leastPrice_75 ?_
        refine G_getR hC fl_X6_9 (by first | assumption | rfl) (by omega) (by first | assumption | exact hGr _ _ _ rfl) dX6_leastPrice_76 ?_
        refine G_il5 hC dX6_leastPrice_79 ?_
        refine G_callSI hC (c_atN (z := 720) rfl (by omega) (by omega)) ms_X6_66 (by decide) rfl (by decide) dX6_leastPrice_81 rfl (Nat.le_of_ble_eq_true rfl) rfl (fun z81 M81 P81 h81 => ?_)
        obtain ⟨rfl, rfl, rfl⟩ := h81
        refine G_il4 hC dX6_leastPrice_84 ?_
        refine G_icmp_ne (tgt := 120) hC dX6_leastPrice_86 (by decide) (by rw [hp1 _ (by omega)]; omega) (by omega) (fun c86 => ?_) (fun c86 => ?_)
        · refine G_inc5 hC dX6_leastPrice_120 rfl ?_
          refine G_goto (tgt := 60) hC dX6_leastPrice_123 (by decide) ?_
          exact ih (l + 1) M1 p1 _ _ (by omega) hS1 hx1 hp1 hok (by rw [← he, if_neg (by rw [← hp1 _ (by omega)]; exact c86)]) rfl (by omega)
        · refine G_al0 hC dX6_leastPrice_89 ?_
          refine G_getR hC fl_X6_22 (by first | assumption | rfl) (by omega) (by first | assumption | exact hGr _ _ _ rfl) dX6_leastPrice_90 ?_
          refine G_getR hC fl_X6_37 (by first | assumption | rfl) (by omega) (by first | assumption | exact hGr _ _ _ rfl) dX6_leastPrice_93 ?_
          refine G_il5 hC dX6_leastPrice_96 ?_
          refine G_callVI hC (c_X0_lieOf hGr (by omega)) mv_X6_43 (by first | assumption | rfl) (by omega) (by decide) rfl (by decide) dX6_leastPrice_98 rfl (Nat.le_of_ble_eq_true rfl) rfl (fun z98 M98 P98 h98 => ?_)
          obtain ⟨rfl, rfl, rfl⟩ := h98
          rw [h13 M1 hx1 l (by omega)]
          refine G_il2 hC dX6_leastPrice_101 ?_
          refine G_callSI hC (c_X9_before (dgf_lo _) (by omega)) ms_X6_49 (by decide) rfl (by decide) dX6_leastPrice_102 rfl (Nat.le_of_ble_eq_true rfl) rfl (fun z102 M102 P102 h102 => ?_)
          obtain ⟨rfl, rfl, rfl⟩ := h102
          refine G_il3 hC dX6_leastPrice_105 ?_
          refine G_icmp_ne (tgt := 112) hC dX6_leastPrice_106 (by decide) (by omega) (by omega) (fun c106 => ?_) (fun c106 => ?_)
          · refine G_al0 hC dX6_leastPrice_112 ?_
            refine G_il5 hC dX6_leastPrice_113 ?_
            refine G_il4 hC dX6_leastPrice_115 ?_
            refine G_callVV hC (c_X6_spreadPrice (p := p1) hGr hS1 (by omega) (by omega) hp1 hok) mv_X6_70 (by first | assumption | rfl) (by omega) (by decide) rfl (by decide) dX6_leastPrice_117 rfl (Nat.le_of_ble_eq_true rfl) rfl (fun M117 P117 h117 => ?_)
            obtain ⟨rfl, g1, g2, g3⟩ := h117
            refine G_inc5 hC dX6_leastPrice_120 rfl ?_
            refine G_goto (tgt := 60) hC dX6_leastPrice_123 (by decide) ?_
            exact ih (l + 1) M117 _ _ _ (by omega) g1 (hx1.trans g2) g3 (spI_ok (by omega) _ _ _ hok) (by rw [← he, if_pos (by rw [← hp1 _ (by omega)]; exact c86), if_neg (by omega), congrFun (hmvc M1 hx1) l]) rfl (by omega)
          · refine G_il4 hC dX6_leastPrice_109 ?_
            exact G_iret hC hQ dX6_leastPrice_111 ⟨_, rfl, rfl, hS1, hx1, by rw [← hr0]; exact (hnone (by rw [← he, if_pos (by rw [← hp1 _ (by omega)]; exact c86), if_pos (by omega)])).symm⟩
  have hlP : ∀ (c pr : Nat) (M1 : Mem) (p1 : Nat → Int) (prv : Int) (x5 : AV), pr + c = sv → SI M1 15 8 4320 T N lq → eqx s22 M M1 → (∀ b, b < 720 → M1 22 b = p1 b) → pOK p1 → lpP T (fun l i j => mvN M T (lq l) i j) lq N g d c pr p1 = lpR T (fun l i j => mvN M T (lq l) i j) lq N g d l0 sv → prv = (pr : Int) → G X Y 42 [vR 21, vI l0, vI g, vI d, vI prv, x5] [] M1 P := by
    intro c
    induction c with
    | zero =>
      intro pr M1 p1 prv x5 hpr hS1 hx1 hp1 hok he e1
      subst e1
      have hsvm := hsv' M1 hx1
      refine G_il4 hC dX6_leastPrice_42 ?_
      refine G_al0 hC dX6_leastPrice_44 ?_
      refine G_getR hC fl_X6_22 (by first | assumption | rfl) (by omega) (by first | assumption | exact hGr _ _ _ rfl) dX6_leastPrice_45 ?_
      refine G_getR hC fl_X6_53 (by first | assumption | rfl) (by omega) (by first | assumption | exact hGr _ _ _ rfl) dX6_leastPrice_48 ?_
      refine G_getI hC fl_X6_57 (by first | assumption | rfl) (by omega) dX6_leastPrice_51 ?_
      refine G_icmp_ge (tgt := 132) hC dX6_leastPrice_54 (by decide) (by omega) (by omega) (fun c54 => ?_) (fun c54 => ?_)
      · refine G_al0 hC dX6_leastPrice_132 ?_
        refine G_getR hC fl_X6_22 (by first | assumption | rfl) (by omega) (by first | assumption | exact hGr _ _ _ rfl) dX6_leastPrice_133 ?_
        refine G_getR hC fl_X6_53 (by first | assumption | rfl) (by omega) (by first | assumption | exact hGr _ _ _ rfl) dX6_leastPrice_136 ?_
        refine G_getI hC fl_X6_57 (by first | assumption | rfl) (by omega) dX6_leastPrice_139 ?_
        exact G_iret hC hQ dX6_leastPrice_142 ⟨_, rfl, rfl, hS1, hx1, by rw [← he, hsvm]; show (sv : Int) = (pr : Int); omega⟩
      · exact absurd c54 (by omega)
    | succ c ih =>
      intro pr M1 p1 prv x5 hpr hS1 hx1 hp1 hok he e1
      subst e1
      have hsvm := hsv' M1 hx1
      have h126 : ∀ (M2 : Mem) (prv : Int) (x5 : AV), prv = (pr : Int) → G X Y 42 [vR 21, vI l0, vI g, vI d, vI ((pr : Int) + 1), x5] [] M2 P → G X Y 126 [vR 21, vI l0, vI g, vI d, vI prv, x5] [] M2 P := by
        intro M2 prv x5 e hg
        subst e
        refine G_inc4 hC dX6_leastPrice_126 rfl ?_
        refine G_goto (tgt := 42) hC dX6_leastPrice_129 (by decide) ?_
        exact hg
      rw [lpP] at he
      refine G_il4 hC dX6_leastPrice_42 ?_
      refine G_al0 hC dX6_leastPrice_44 ?_
      refine G_getR hC fl_X6_22 (by first | assumption | rfl) (by omega) (by first | assumption | exact hGr _ _ _ rfl) dX6_leastPrice_45 ?_
      refine G_getR hC fl_X6_53 (by first | assumption | rfl) (by omega) (by first | assumption | exact hGr _ _ _ rfl) dX6_leastPrice_48 ?_
      refine G_getI hC fl_X6_57 (by first | assumption | rfl) (by omega) dX6_leastPrice_51 ?_
      refine G_icmp_ge (tgt := 132) hC dX6_leastPrice_54 (by decide) (by omega) (by omega) (fun c54 => ?_) (fun c54 => ?_)
      · exact absurd c54 (by omega)
      · refine G_iconst hC dX6_leastPrice_57 ?_
        refine G_is5 hC dX6_leastPrice_58 rfl ?_
        exact hlL pr _ (by omega) rfl p1 (fun h => by rw [← he, h]) (fun M2 p2 prv x5 g1 g2 g3 g4 g5 g6 => h126 M2 prv x5 g6 (ih (pr + 1) M2 p2 _ _ (by omega) g2 g3 g4 g5 (by rw [← he, g1]; rfl) (by omega))) N 0 M1 p1 _ _ (by omega) hS1 hx1 hp1 hok rfl rfl rfl
  refine G_al0 hC dX6_leastPrice_0 ?_
  refine G_getR hC fl_X6_9 (by first | assumption | rfl) (by omega) (by first | assumption | exact hGr _ _ _ rfl) dX6_leastPrice_1 ?_
  refine G_ldc (z := 1000000) hC kc_X6_26 (by decide) dX6_leastPrice_4 ?_
  refine G_callSV hC (c_fillI (z := 720) rfl (by omega)) ms_X6_27 (by decide) rfl (by decide) dX6_leastPrice_6 rfl (Nat.le_of_ble_eq_true rfl) rfl (fun M6 P6 h6 => ?_)
  obtain ⟨rfl, rfl⟩ := h6
  refine G_al0 hC dX6_leastPrice_9 ?_
  refine G_getR hC fl_X6_9 (by first | assumption | rfl) (by omega) (by first | assumption | exact hGr _ _ _ rfl) dX6_leastPrice_10 ?_
  refine G_il1 hC dX6_leastPrice_13 ?_
  refine G_iconst hC dX6_leastPrice_14 ?_
  refine G_callSV hC (c_putN (z := 720) rfl (by omega) (by omega)) ms_X6_33 (by decide) rfl (by decide) dX6_leastPrice_15 rfl (Nat.le_of_ble_eq_true rfl) rfl (fun M15 P15 h15 => ?_)
  obtain ⟨rfl, rfl⟩ := h15
  have hx0 : eqx s22 M (upM (flM M 22 1000000 720) 22 l0 0) := fun a ha b => by
    have h1 : a ≠ 22 := fun q => ha (Or.inl q)
    rw [upM_ne h1]; unfold flM; rw [if_neg (by omega)]
  refine G_al0 hC dX6_leastPrice_18 ?_
  refine G_getR hC fl_X6_22 (by first | assumption | rfl) (by omega) (by first | assumption | exact hGr _ _ _ rfl) dX6_leastPrice_19 ?_
  refine G_getR hC fl_X6_37 (by first | assumption | rfl) (by omega) (by first | assumption | exact hGr _ _ _ rfl) dX6_leastPrice_22 ?_
  refine G_il1 hC dX6_leastPrice_25 ?_
  refine G_callVI hC (c_X0_lieOf hGr (by omega)) mv_X6_43 (by first | assumption | rfl) (by omega) (by decide) rfl (by decide) dX6_leastPrice_26 rfl (Nat.le_of_ble_eq_true rfl) rfl (fun z26 M26 P26 h26 => ?_)
  obtain ⟨rfl, rfl, rfl⟩ := h26
  rw [h13 _ hx0 l0 hl0]
  refine G_il2 hC dX6_leastPrice_29 ?_
  refine G_callSI hC (c_X9_before (dgf_lo _) (by omega)) ms_X6_49 (by decide) rfl (by decide) dX6_leastPrice_30 rfl (Nat.le_of_ble_eq_true rfl) rfl (fun z30 M30 P30 h30 => ?_)
  obtain ⟨rfl, rfl, rfl⟩ := h30
  refine G_il3 hC dX6_leastPrice_33 ?_
  refine G_icmp_ne (tgt := 39) hC dX6_leastPrice_34 (by decide) (by have := dgf_lo (lq l0) g; omega) (by omega) (fun c34 => ?_) (fun c34 => ?_)
  · refine G_iconst hC dX6_leastPrice_39 ?_
    refine G_is4 hC dX6_leastPrice_40 rfl ?_
    exact hlP sv 0 _ (p0F l0) _ _ (by omega) (SI_22 hS (fun a ha b => by rw [upM_ne ha]; unfold flM; rw [if_neg (by omega)])) hx0 p0_mem (p0F_ok l0) (by unfold lpR; rw [if_neg (by omega)]; rfl) rfl
  · refine G_iconst hC dX6_leastPrice_37 ?_
    exact G_iret hC hQ dX6_leastPrice_38 ⟨_, rfl, rfl, SI_22 hS (fun a ha b => by rw [upM_ne ha]; unfold flM; rw [if_neg (by omega)]), hx0, by unfold lpR; rw [if_pos (by omega)]⟩
