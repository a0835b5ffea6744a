/-! ways -/
def sw1 (mf : Nat → Nat → Nat) (many : Int) (i j : Nat) (w : Nat → Int) : Nat → Int := if mf i j < 720 then (fun b => if b = mf i j then w b + many else w b) else w
def wyJ (mf : Nat → Nat → Nat) (many : Int) (i : Nat) : Nat → Nat → (Nat → Int) → (Nat → Int)
  | 0, _, w => w
  | c + 1, j, w => wyJ mf many i c (j + 1) (sw1 mf many i j w)
def wyI (n : Nat) (mf : Nat → Nat → Nat) (many : Int) : Nat → Nat → (Nat → Int) → (Nat → Int)
  | 0, _, w => w
  | c + 1, i, w => wyI n mf many c (i + 1) (wyJ mf many i n 0 w)
def wyL (n : Nat) (mf : Nat → Nat → Nat → Nat) (w0 : Nat → Int) : Nat → Nat → (Nat → Int) → (Nat → Int)
  | 0, _, w => w
  | c + 1, l, w => if w0 l = 0 then wyL n mf w0 c (l + 1) w else wyL n mf w0 c (l + 1) (wyI n (mf l) (w0 l) n 0 w)
def wyN (n : Nat) (mf : Nat → Nat → Nat → Nat) : Nat → (Nat → Int) → (Nat → Int)
  | 0, w => w
  | e + 1, w => wyN n mf e (wyL n mf w 720 0 (fun _ => 0))
def wy0 (l0 : Nat) : Nat → Int := fun b => if b = l0 then 1 else 0
def isW (wa wb : Nat) : Prop := (wa = 23 ∧ wb = 24) ∨ (wa = 24 ∧ wb = 23)
theorem isW_all {wa wb : Nat} (h : isW wa wb) : shp wa = (12, 720) ∧ shp wb = (12, 720) ∧ wa < 45 ∧ wb < 45 ∧ wa ≠ wb ∧ wa ≠ 16 ∧ wb ≠ 16 ∧ (wa = 23 ∨ wa = 24) ∧ (wb = 23 ∨ wb = 24) := by
  rcases h with ⟨rfl, rfl⟩ | ⟨rfl, rfl⟩ <;> exact ⟨rfl, rfl, by omega, by omega, by omega, by omega, by omega, by omega, by omega⟩
def sWX : Nat → Prop := fun a => a = 23 ∨ a = 24 ∨ a = 16
def sWb (wb : Nat) : Nat → Prop := fun a => a = wb ∨ a = 16
theorem SI_w {M M' : Mem} {N : Nat} {T : TB} {lq : Nat → Nat} (h : SI M 15 8 4320 T N lq) (he : eqx (fun a => a = 23 ∨ a = 24) M M') : SI M' 15 8 4320 T N lq := by
  obtain ⟨a1, a2, a3, a4⟩ := h
  have q : ∀ a, a ≠ 23 → a ≠ 24 → ∀ b, M' a b = M a b := fun a h1 h2 => he a (fun z => z.elim h1 h2)
  exact ⟨TabR_congr a1 (q 8 (by omega) (by omega)) (q 9 (by omega) (by omega)) (q 11 (by omega) (by omega)), LyI_congr a2 (q 12 (by omega) (by omega)) (q 13 (by omega) (by omega)) (q 14 (by omega) (by omega)), RwI_congr a3 (q 13 (by omega) (by omega)) (q 14 (by omega) (by omega)) (q 16 (by omega) (by omega)), a4⟩
theorem sw1_mem {M : Mem} {mf : Nat → Nat → Nat} {many : Int} {i j wb : Nat} {w : Nat → Int} (h : ∀ b, b < 720 → M wb b = w b) (h1 : mf i j < 720) (b : Nat) (hb : b < 720) : upM M wb (mf i j) (M wb (mf i j) + many) wb b = sw1 mf many i j w b := by
  unfold sw1
  rw [if_pos h1]
  simp only [upM]
  split
  · rename_i z; rw [if_pos z.2, h _ h1, z.2]
  · rename_i z; rw [if_neg (fun q => z ⟨trivial, q⟩)]; exact h b hb
def swQ (M : Mem) (P : PMem) (N : Nat) (T : TB) (lq : Nat → Nat) (wb : Nat) (w' : Nat → Int) : Mem → PMem → Prop := fun M' P' => P = P' ∧ SI M' 15 8 4320 T N lq ∧ eqx (sWb wb) M M' ∧ ∀ b, b < 720 → M' wb b = w' b
set_option maxHeartbeats 4000000 in
set_option maxRecDepth 100000 in
theorem c_X6_spreadWays {l : Launch} {N l0 wa wb : Nat} {T : TB} {lq : Nat → Nat} {many : Int} {w0 : Nat → Int} {M : Mem} {P : PMem} (hGr : Gr P) (hw : isW wa wb) (hwb : P 21 3 = some wb) (hS : SI M 15 8 4320 T N lq) (hl0 : l0 < N) (hp : ∀ b, b < 720 → M wb b = w0 b) : CtV l yX6_spreadWays cX6_spreadWays 9 none 4 108 45 [vR 21, vI l0, vL many] M P (swQ M P N T lq wb (wyI (tn T) (fun i j => mvN M T (lq l0) i j) many (tn T) 0 w0)) := by
  refine Ct_of (own := RX6) (L := [vR 21, vI l0, vL many, vX 1, vX 1, vX 1, vX 1, vX 1, vX 1]) (by decide) rfl rfl (Nat.le_of_ble_eq_true rfl) (fun X Y hl hC hQ => ?_)
  obtain ⟨ws1, ws2, wl1, wl2, wne, wn1, wn2, wc1, wc2⟩ := isW_all hw
  have hR := hS.1
  obtain ⟨hR0, hR2, hR6, hRr, hRr1, hRk, hRw⟩ := id hR
  have hN7 := hS.2.1.2.2.1
  have hnn : ∀ a, a ≠ 23 → a ≠ 24 → a ≠ 16 → ¬ sWb wb a := fun a h1 h2 h3 z => by unfold sWb at z; omega
  have hgR : ∀ M1 : Mem, eqx (sWb wb) M M1 → M1 8 0 = (tn T : Int) := fun M1 h => by rw [h 8 (hnn 8 (by omega) (by omega) (by omega))]; exact hR0
  have hmvc : ∀ M1 : Mem, eqx (sWb wb) M M1 → ∀ i j, mvN M1 T (lq l0) i j = mvN M T (lq l0) i j := fun M1 h i j => mvN_congr (h 13 (hnn 13 (by omega) (by omega) (by omega))) (h 14 (hnn 14 (by omega) (by omega) (by omega)))
  have hlJ : ∀ (i : Nat) (wz : Nat → Int), i < tn T → (∀ (M2 : Mem) (iv : Int) (x5 x6 x7 x8 : AV), SI M2 15 8 4320 T N lq → eqx (sWb wb) M M2 → (∀ b, b < 720 → M2 wb b = wyJ (fun i j => mvN M T (lq l0) i j) many i (tn T) 0 wz b) → iv = (i : Int) → G X Y 82 [vR 21, vI l0, vL many, vX 1, vI iv, x5, x6, x7, x8] [] M2 P) → ∀ (c j : Nat) (M1 : Mem) (iv jv rv : Int) (w1 : Nat → Int) (x8 : AV), j + c = tn T → SI M1 15 8 4320 T N lq → eqx (sWb wb) M M1 → (∀ b, b < 720 → M1 wb b = w1 b) → wyJ (fun i j => mvN M T (lq l0) i j) many i c j w1 = wyJ (fun i j => mvN M T (lq l0) i j) many i (tn T) 0 wz → iv = (i : Int) → jv = (j : Int) → rv = (rrC (fun j => mvN M T (lq l0) i j) 6 : Int) → G X Y 33 [vR 21, vI l0, vL many, vX 1, vI iv, vL rv, vX 1, vI jv, x8] [] M1 P := by
    intro i wz hi hnext c
    have hto : ∀ j, (fun j => mvN M T (lq l0) i j) j ≤ 1023 := fun j => mvN_le hS.2.1.1
    induction c with
    | zero =>
      intro j M1 iv jv rv w1 x8 hj hS1 hx1 hp1 he e1 e2 e3
      subst e1; subst e2; subst e3
      have hg := hgR M1 hx1
      refine G_il7 hC dX6_spreadWays_33 ?_
      refine G_al0 hC dX6_spreadWays_35 ?_
      refine G_getR hC fl_X6_22 (by first | assumption | rfl) (by omega) (by first | assumption | exact hGr _ _ _ rfl) dX6_spreadWays_36 ?_
      refine G_getR hC fl_X6_53 (by first | assumption | rfl) (by omega) (by first | assumption | exact hGr _ _ _ rfl) dX6_spreadWays_39 ?_
      refine G_getI hC fl_X6_74 (by first | assumption | rfl) (by omega) dX6_spreadWays_42 ?_
      refine G_icmp_ge (tgt := 82) hC dX6_spreadWays_45 (by decide) (by omega) (by omega) (fun c45 => ?_) (fun c45 => ?_)
      · exact hnext M1 _ _ _ _ _ hS1 hx1 (fun b hb => by rw [← he]; exact hp1 b hb) rfl
      · exact absurd c45 (by omega)
    | succ c ih =>
      intro j M1 iv jv rv w1 x8 hj hS1 hx1 hp1 he e1 e2 e3
      subst e1; subst e2; subst e3
      have hg := hgR M1 hx1
      have htj : mvN M T (lq l0) i j ≤ 1023 := hto j
      refine G_il7 hC dX6_spreadWays_33 ?_
      refine G_al0 hC dX6_spreadWays_35 ?_
      refine G_getR hC fl_X6_22 (by first | assumption | rfl) (by omega) (by first | assumption | exact hGr _ _ _ rfl) dX6_spreadWays_36 ?_
      refine G_getR hC fl_X6_53 (by first | assumption | rfl) (by omega) (by first | assumption | exact hGr _ _ _ rfl) dX6_spreadWays_39 ?_
      refine G_getI hC fl_X6_74 (by first | assumption | rfl) (by omega) dX6_spreadWays_42 ?_
      refine G_icmp_ge (tgt := 82) hC dX6_spreadWays_45 (by decide) (by omega) (by omega) (fun c45 => ?_) (fun c45 => ?_)
      · exact absurd c45 (by omega)
      · refine G_ll5 hC dX6_spreadWays_48 ?_
        refine G_il7 hC dX6_spreadWays_50 ?_
        refine G_callSI hC (c_X3_target hto (by omega)) ms_X6_81 (by decide) rfl (by decide) dX6_spreadWays_52 rfl (Nat.le_of_ble_eq_true rfl) rfl (fun z52 M52 P52 h52 => ?_)
        obtain ⟨rfl, rfl, rfl⟩ := h52
        refine G_is8 hC dX6_spreadWays_55 rfl ?_
        refine G_il8 hC dX6_spreadWays_57 ?_
        refine G_sipush hC dX6_spreadWays_59 (by decide) ?_
        refine G_icmp_ge (tgt := 76) hC dX6_spreadWays_62 (by decide) (by omega) (by omega) (fun c62 => ?_) (fun c62 => ?_)
        · refine G_inc7 hC dX6_spreadWays_76 rfl ?_
          refine G_goto (tgt := 33) hC dX6_spreadWays_79 (by decide) ?_
          exact ih (j + 1) _ _ _ _ w1 _ (by omega) hS1 hx1 hp1 (by rw [← he]; show _ = wyJ _ _ _ c (j + 1) (sw1 _ _ _ _ _); rw [show sw1 (fun i j => mvN M T (lq l0) i j) many i j w1 = w1 by unfold sw1; rw [if_neg (by dsimp only; omega)]]) rfl (by omega) rfl
        · refine G_al0 hC dX6_spreadWays_65 ?_
          refine G_getR hC fl_X6_19 (by first | assumption | rfl) (by omega) hwb dX6_spreadWays_66 ?_
          refine G_il8 hC dX6_spreadWays_69 ?_
          refine G_dup2 hC dX6_spreadWays_71 rfl rfl ?_
          refine G_laload hC (by first | assumption | rfl) (by omega) (by omega) dX6_spreadWays_72 ?_
          refine G_ll2 hC dX6_spreadWays_73 ?_
          refine G_ladd hC dX6_spreadWays_74 ?_
          refine G_lastore hC (by first | assumption | rfl) (by omega) (by omega) dX6_spreadWays_75 ?_
          refine G_inc7 hC dX6_spreadWays_76 rfl ?_
          refine G_goto (tgt := 33) hC dX6_spreadWays_79 (by decide) ?_
          exact ih (j + 1) _ _ _ _ (sw1 (fun i j => mvN M T (lq l0) i j) many i j w1) _ (by omega) (SI_w hS1 (eqx_up wc2)) (hx1.trans (eqx_up (Or.inl rfl))) (sw1_mem (mf := fun i j => mvN M T (lq l0) i j) hp1 (show mvN M T (lq l0) i j < 720 by omega)) he rfl (by omega) rfl
  have hlI : ∀ (c i : Nat) (M1 : Mem) (iv : Int) (w1 : Nat → Int) (x5 x6 x7 x8 : AV), i + c = tn T → SI M1 15 8 4320 T N lq → eqx (sWb wb) M M1 → (∀ b, b < 720 → M1 wb b = w1 b) → wyI (tn T) (fun i j => mvN M T (lq l0) i j) many c i w1 = wyI (tn T) (fun i j => mvN M T (lq l0) i j) many (tn T) 0 w0 → iv = (i : Int) → G X Y 3 [vR 21, vI l0, vL many, vX 1, vI iv, x5, x6, x7, x8] [] M1 P := by
    intro c
    induction c with
    | zero =>
      intro i M1 iv w1 x5 x6 x7 x8 hi hS1 hx1 hp1 he e1
      subst e1
      have hg := hgR M1 hx1
      refine G_il4 hC dX6_spreadWays_3 ?_
      refine G_al0 hC dX6_spreadWays_5 ?_
      refine G_getR hC fl_X6_22 (by first | assumption | rfl) (by omega) (by first | assumption | exact hGr _ _ _ rfl) dX6_spreadWays_6 ?_
      refine G_getR hC fl_X6_53 (by first | assumption | rfl) (by omega) (by first | assumption | exact hGr _ _ _ rfl) dX6_spreadWays_9 ?_
      refine G_getI hC fl_X6_74 (by first | assumption | rfl) (by omega) dX6_spreadWays_12 ?_
      refine G_icmp_ge (tgt := 88) hC dX6_spreadWays_15 (by decide) (by omega) (by omega) (fun c15 => ?_) (fun c15 => ?_)
      · exact G_vret hC hQ dX6_spreadWays_88 ⟨rfl, rfl, hS1, hx1, fun b hb => by rw [← he]; exact hp1 b hb⟩
      · exact absurd c15 (by omega)
    | succ c ih =>
      intro i M1 iv w1 x5 x6 x7 x8 hi hS1 hx1 hp1 he e1
      subst e1
      have hg := hgR M1 hx1
      obtain ⟨hS2, hx2⟩ := SI_ro (k := l0) (i := i) isMv15 hS1 (by omega) (by omega)
      have hq2 : ∀ a, a ≠ 16 → ∀ b, roM M1 15 4320 T l0 i a b = M1 a b := fun a h => hx2 a h
      have hlk : (M1 13 l0).toNat = lq l0 := by rw [(hS1.2.1.2.2.2.1 l0 hl0).1]; omega
      have h82 : ∀ (M2 : Mem) (iv : Int) (x5 x6 x7 x8 : AV), iv = (i : Int) → G X Y 3 [vR 21, vI l0, vL many, vX 1, vI ((i : Int) + 1), x5, x6, x7, x8] [] M2 P → G X Y 82 [vR 21, vI l0, vL many, vX 1, vI iv, x5, x6, x7, x8] [] M2 P := by
        intro M2 iv x5 x6 x7 x8 e hg
        subst e
        refine G_inc4 hC dX6_spreadWays_82 rfl ?_
        refine G_goto (tgt := 3) hC dX6_spreadWays_85 (by decide) ?_
        exact hg
      refine G_il4 hC dX6_spreadWays_3 ?_
      refine G_al0 hC dX6_spreadWays_5 ?_
      refine G_getR hC fl_X6_22 (by first | assumption | rfl) (by omega) (by first | assumption | exact hGr _ _ _ rfl) dX6_spreadWays_6 ?_
      refine G_getR hC fl_X6_53 (by first | assumption | rfl) (by omega) (by first | assumption | exact hGr _ _ _ rfl) dX6_spreadWays_9 ?_
      refine G_getI hC fl_X6_74 (by first | assumption | rfl) (by omega) dX6_spreadWays_12 ?_
      refine G_icmp_ge (tgt := 88) hC dX6_spreadWays_15 (by decide) (by omega) (by omega) (fun c15 => ?_) (fun c15 => ?_)
      · exact absurd c15 (by omega)
      · refine G_al0 hC dX6_spreadWays_18 ?_
        refine G_getR hC fl_X6_22 (by first | assumption | rfl) (by omega) (by first | assumption | exact hGr _ _ _ rfl) dX6_spreadWays_19 ?_
        refine G_il1 hC dX6_spreadWays_22 ?_
        refine G_il4 hC dX6_spreadWays_23 ?_
        refine G_callVL hC (c_X3_rowOf hGr isMv15 hS1.1 hS1.2.1.1 (by omega) (by omega) (hS1.2.2.1 l0 i (by omega) (by omega))) mv_X6_77 (by first | assumption | rfl) (by omega) (by decide) rfl (by decide) dX6_spreadWays_25 rfl (Nat.le_of_ble_eq_true rfl) rfl (fun z25 M25 P25 h25 => ?_)
        obtain ⟨rfl, rfl, rfl⟩ := h25
        refine G_ls5 hC dX6_spreadWays_28 rfl ?_
        refine G_iconst hC dX6_spreadWays_30 ?_
        refine G_is7 hC dX6_spreadWays_31 rfl ?_
        exact hlJ i w1 (by omega) (fun M2 iv x5 x6 x7 x8 g1 g2 g3 g4 => h82 M2 iv x5 x6 x7 x8 g4 (ih (i + 1) M2 _ _ _ _ _ _ (by omega) g1 g2 g3 he (by omega))) (tn T) 0 _ _ _ _ w1 _ (by omega) hS2 (hx1.trans (hx2.mono (fun a h => Or.inr h))) (fun b hb => by rw [hq2 wb (by omega)]; exact hp1 b hb) rfl rfl rfl (by rw [hlk]; simp only [hmvc M1 hx1])
  refine G_iconst hC dX6_spreadWays_0 ?_
  refine G_is4 hC dX6_spreadWays_1 rfl ?_
  exact hlI (tn T) 0 M _ w0 _ _ _ _ (by omega) hS eqx.refl hp rfl rfl
/-! how large they grow -/
def tot (w : Nat → Int) : Nat → Int
  | 0 => 0
  | k + 1 => tot w k + w k
theorem tot_ge {w : Nat → Int} (h : ∀ b, 0 ≤ w b) : ∀ k, 0 ≤ tot w k
  | 0 => by unfold tot; omega
  | k + 1 => by have := tot_ge h k; have := h k; unfold tot; omega
theorem tot_at {w : Nat → Int} (h : ∀ b, 0 ≤ w b) {b : Nat} : ∀ k, b < k → w b ≤ tot w k
  | 0, hb => by omega
  | k + 1, hb => by
    have h1 := tot_ge h k
    have h2 := h k
    unfold tot
    by_cases e : b = k
    · subst e; omega
    · have := tot_at h k (by omega : b < k); omega
theorem tot_up {w : Nat → Int} {a : Nat} {m : Int} : ∀ k, tot (fun b => if b = a then w b + m else w b) k = if a < k then tot w k + m else tot w k
  | 0 => by simp [tot]
  | k + 1 => by
    unfold tot
    rw [tot_up k]
    by_cases e : k = a
    · subst e; rw [if_neg (by omega), if_pos rfl, if_pos (by omega)]; omega
    · rw [if_neg e]
      by_cases h : a < k
      · rw [if_pos h, if_pos (by omega)]; omega
      · rw [if_neg h, if_neg (by omega)]
theorem sw1_b {mf : Nat → Nat → Nat} {many : Int} {i j : Nat} {w : Nat → Int} (hm : 0 ≤ many) (h : ∀ b, 0 ≤ w b) : (∀ b, 0 ≤ sw1 mf many i j w b) ∧ tot (sw1 mf many i j w) 720 ≤ tot w 720 + many := by
  unfold sw1
  split
  · rename_i q
    refine ⟨fun b => ?_, ?_⟩
    · have := h b; dsimp only; split <;> omega
    · rw [tot_up, if_pos q]; omega
  · exact ⟨h, by omega⟩
theorem wyJ_b {mf : Nat → Nat → Nat} {many : Int} {i : Nat} (hm : 0 ≤ many) : ∀ (c j : Nat) (w : Nat → Int), (∀ b, 0 ≤ w b) → (∀ b, 0 ≤ wyJ mf many i c j w b) ∧ tot (wyJ mf many i c j w) 720 ≤ tot w 720 + c * many
  | 0, _, w, h => ⟨h, by simp [wyJ]⟩
  | c + 1, j, w, h => by
    have h1 := sw1_b (mf := mf) (i := i) (j := j) hm h
    have h2 := wyJ_b (mf := mf) (i := i) hm c (j + 1) _ h1.1
    refine ⟨h2.1, ?_⟩
    have h3 := h2.2
    show tot (wyJ mf many i c (j + 1) (sw1 mf many i j w)) 720 ≤ _
    have e : ((c + 1 : Nat) : Int) * many = (c : Int) * many + many := by rw [show ((c + 1 : Nat) : Int) = (c : Int) + 1 by omega, Int.add_mul, Int.one_mul]
    omega
theorem wyI_b {n : Nat} {mf : Nat → Nat → Nat} {many : Int} (hm : 0 ≤ many) : ∀ (c i : Nat) (w : Nat → Int), (∀ b, 0 ≤ w b) → (∀ b, 0 ≤ wyI n mf many c i w b) ∧ tot (wyI n mf many c i w) 720 ≤ tot w 720 + c * (n * many)
  | 0, _, w, h => ⟨h, by simp [wyI]⟩
  | c + 1, i, w, h => by
    have h1 := wyJ_b (mf := mf) (i := i) hm n 0 w h
    have h2 := wyI_b (n := n) (mf := mf) hm c (i + 1) _ h1.1
    refine ⟨h2.1, ?_⟩
    have h3 := h2.2
    have h4 := h1.2
    show tot (wyI n mf many c (i + 1) (wyJ mf many i n 0 w)) 720 ≤ _
    have e : ((c + 1 : Nat) : Int) * ((n : Int) * many) = (c : Int) * ((n : Int) * many) + (n : Int) * many := by rw [show ((c + 1 : Nat) : Int) = (c : Int) + 1 by omega, Int.add_mul, Int.one_mul]
    omega
theorem wyL_b {n : Nat} (hn : n ≤ 6) {mf : Nat → Nat → Nat → Nat} {w0 : Nat → Int} (h0 : ∀ b, 0 ≤ w0 b) : ∀ (c l : Nat) (w : Nat → Int), (∀ b, 0 ≤ w b) → (∀ b, 0 ≤ wyL n mf w0 c l w b) ∧ tot (wyL n mf w0 c l w) 720 ≤ tot w 720 + 36 * (tot w0 (l + c) - tot w0 l)
  | 0, l, w, h => ⟨h, by simp [wyL]⟩
  | c + 1, l, w, h => by
    have hl := h0 l
    have e1 : tot w0 (l + 1) = tot w0 l + w0 l := rfl
    have e2 : l + (c + 1) = l + 1 + c := by omega
    unfold wyL
    split
    · rename_i q
      have h2 := wyL_b hn h0 (mf := mf) c (l + 1) w h
      refine ⟨h2.1, ?_⟩
      have := h2.2
      rw [e2]; omega
    · have h1 := wyI_b (n := n) (mf := mf l) hl n 0 w h
      have h2 := wyL_b hn h0 (mf := mf) c (l + 1) _ h1.1
      refine ⟨h2.1, ?_⟩
      have h3 := h2.2
      have h4 := h1.2
      have e3 : (n : Int) * ((n : Int) * w0 l) ≤ 36 * w0 l := by
        rw [← Int.mul_assoc]
        have hnn : (n : Int) * n ≤ 36 := by
          have := Nat.mul_le_mul hn hn
          have e : ((n * n : Nat) : Int) = (n : Int) * n := by simp
          omega
        exact Int.mul_le_mul_of_nonneg_right hnn hl
      rw [e2]; omega
theorem sw1_hi {mf : Nat → Nat → Nat} {many : Int} {i j N : Nat} {w : Nat → Int} (hmf : mf i j < 720 → mf i j < N) (h : ∀ b, N ≤ b → w b = 0) : ∀ b, N ≤ b → sw1 mf many i j w b = 0 := by
  intro b hb
  unfold sw1
  split
  · rename_i q
    have := hmf q
    dsimp only
    rw [if_neg (by omega)]; exact h b hb
  · exact h b hb
theorem wyJ_hi {mf : Nat → Nat → Nat} {many : Int} {i N : Nat} (hmf : ∀ j, mf i j < 720 → mf i j < N) : ∀ (c j : Nat) (w : Nat → Int), (∀ b, N ≤ b → w b = 0) → ∀ b, N ≤ b → wyJ mf many i c j w b = 0
  | 0, _, _, h => h
  | c + 1, j, w, h => wyJ_hi hmf c (j + 1) _ (sw1_hi (hmf j) h)
theorem wyI_hi {n : Nat} {mf : Nat → Nat → Nat} {many : Int} {N : Nat} (hmf : ∀ i j, mf i j < 720 → mf i j < N) : ∀ (c i : Nat) (w : Nat → Int), (∀ b, N ≤ b → w b = 0) → ∀ b, N ≤ b → wyI n mf many c i w b = 0
  | 0, _, _, h => h
  | c + 1, i, w, h => wyI_hi hmf c (i + 1) _ (wyJ_hi (hmf i) _ _ _ h)
theorem wyL_hi {n : Nat} {mf : Nat → Nat → Nat → Nat} {N : Nat} {w0 : Nat → Int} (hmf : ∀ l i j, mf l i j < 720 → mf l i j < N) : ∀ (c l : Nat) (w : Nat → Int), (∀ b, N ≤ b → w b = 0) → ∀ b, N ≤ b → wyL n mf w0 c l w b = 0
  | 0, _, _, h => h
  | c + 1, l, w, h => by
    unfold wyL
    split
    · exact wyL_hi hmf c (l + 1) w h
    · exact wyL_hi hmf c (l + 1) _ (wyI_hi (hmf l) _ _ _ h)
theorem mvN_ltN {M : Mem} {T : TB} {N q i j : Nat} {lq : Nat → Nat} (hI : LyI M N lq) (h : mvN M T q i j < 720) : mvN M T q i j < N := by
  by_cases hc : can T (dgf q) i j
  · rw [mvN_1 hc] at h ⊢
    by_cases hx : ∃ l, l < N ∧ lq l = enc (aft T (dgf q) i j)
    · obtain ⟨l, h1, h2⟩ := hx
      rw [← h2, (hI.2.2.2.1 l h1).2]; omega
    · have := hI.2.2.2.2 (enc (aft T (dgf q) i j)) (enc_lt (aft_lo (dgf_lo _))) (fun l hl e => hx ⟨l, hl, e⟩)
      rw [this] at h; omega
  · rw [mvN_0 hc] at h; omega
theorem Gr_upW {P : PMem} {j : Nat} {v : Option Nat} (h : Gr P) (hj : j = 2 ∨ j = 3) : Gr (upP P 21 j v) := by
  intro k i q e
  unfold upP
  rw [if_neg]
  · exact h k i q e
  · rintro ⟨rfl, rfl⟩
    rcases hj with rfl | rfl <;> simp [pstC] at e
/-- only the two rows of ways change places -/
def wyP (P P' : PMem) : Prop := Gr P' ∧ (∃ wa wb, isW wa wb ∧ P' 21 2 = some wa ∧ P' 21 3 = some wb) ∧ ∀ k j, ¬ (k = 21 ∧ (j = 2 ∨ j = 3)) → P' k j = P k j
def rbQ (M : Mem) (P : PMem) (N : Nat) (T : TB) (lq : Nat → Nat) (r0 : Int) : Int → Mem → PMem → Prop := fun r M' P' => wyP P P' ∧ SI M' 15 8 4320 T N lq ∧ eqx sWX M M' ∧ r = r0
set_option maxHeartbeats 4000000 in
set_option maxRecDepth 100000 in
theorem c_X6_rowsBetween {l : Launch} {N l0 l1 nn wa wb : Nat} {T : TB} {lq : Nat → Nat} {M : Mem} {P : PMem} (hGr : Gr P) (hw : isW wa wb) (hwa : P 21 2 = some wa) (hwb : P 21 3 = some wb) (hS : SI M 15 8 4320 T N lq) (hl0 : l0 < N) (hl1 : l1 < N) (hn8 : nn ≤ 8) : CtL l yX6_rowsBetween cX6_rowsBetween 6 (some .long) 5 136 45 [vR 21, vI l0, vI l1, vI nn] M P (rbQ M P N T lq (wyN (tn T) (fun l i j => mvN M T (lq l) i j) nn (wy0 l0) l1)) := by
  refine Ct_of (own := RX6) (L := [vR 21, vI l0, vI l1, vI nn, vX 1, vX 1]) (by decide) rfl rfl (Nat.le_of_ble_eq_true rfl) (fun X Y hl hC hQ => ?_)
  have hN7 := hS.2.1.2.2.1
  have hR6 := hS.1.2.2.1
  have hmvc : ∀ M1 : Mem, eqx sWX M M1 → (fun l i j => mvN M1 T (lq l) i j) = fun l i j => mvN M T (lq l) i j := fun M1 h => by funext l i j; exact mvN_congr (h 13 (by unfold sWX; omega)) (h 14 (by unfold sWX; omega))
  have hmfN : ∀ l i j, (fun l i j => mvN M T (lq l) i j) l i j < 720 → (fun l i j => mvN M T (lq l) i j) l i j < N := fun l i j h => mvN_ltN hS.2.1 h
  have hlL : ∀ (wa wb : Nat) (P1 : PMem) (w0 : Nat → Int), isW wa wb → wyP P P1 → P1 21 2 = some wa → P1 21 3 = some wb → (∀ b, 0 ≤ w0 b) → tot w0 720 ≤ 2821109907456 → (∀ b, N ≤ b → w0 b = 0) → ∀ (ev : Int), (∀ (M2 : Mem) (lv : Int), SI M2 15 8 4320 T N lq → eqx sWX M M2 → (∀ b, b < 720 → M2 wb b = wyL (tn T) (fun l i j => mvN M T (lq l) i j) w0 720 0 (fun _ => 0) b) → G X Y 98 [vR 21, vI l0, vI l1, vI nn, vI ev, vI lv] [] M2 P1) → ∀ (c l : Nat) (M1 : Mem) (lv : Int) (w1 : Nat → Int), l + c = 720 → SI M1 15 8 4320 T N lq → eqx sWX M M1 → (∀ b, b < 720 → M1 wa b = w0 b) → (∀ b, b < 720 → M1 wb b = w1 b) → wyL (tn T) (fun l i j => mvN M T (lq l) i j) w0 c l w1 = wyL (tn T) (fun l i j => mvN M T (lq l) i j) w0 720 0 (fun _ => 0) → lv = (l : Int) → G X Y 59 [vR 21, vI l0, vI l1, vI nn, vI ev, vI lv] [] M1 P1 := by
    intro wa wb P1 w0 hw hP1 hwa hwb h0 ht0 hhi ev hnext c
    obtain ⟨ws1, ws2, wl1, wl2, wne, wn1, wn2, wc1, wc2⟩ := isW_all hw
    have hGr := hP1.1
    induction c with
    | zero =>
      intro l M1 lv w1 hl hS1 hx1 hpa hpb he e1
      subst e1
      refine G_il5 hC dX6_rowsBetween_59 ?_
      refine G_sipush hC dX6_rowsBetween_61 (by decide) ?_
      refine G_icmp_ge (tgt := 98) hC dX6_rowsBetween_64 (by decide) (by omega) (by omega) (fun c64 => ?_) (fun c64 => ?_)
      · exact hnext M1 _ hS1 hx1 (fun b hb => by rw [← he]; exact hpb b hb)
      · exact absurd c64 (by omega)
    | succ c ih =>
      intro l M1 lv w1 hl hS1 hx1 hpa hpb he e1
      subst e1
      have hwl : M1 wa ((l : Nat) : Int).toNat = w0 l := hpa l (by omega)
      have hb1 := h0 l
      have hb2 := tot_at h0 720 (show l < 720 by omega)
      rw [wyL] at he
      refine G_il5 hC dX6_rowsBetween_59 ?_
      refine G_sipush hC dX6_rowsBetween_61 (by decide) ?_
      refine G_icmp_ge (tgt := 98) hC dX6_rowsBetween_64 (by decide) (by omega) (by omega) (fun c64 => ?_) (fun c64 => ?_)
      · exact absurd c64 (by omega)
      · refine G_al0 hC dX6_rowsBetween_67 ?_
        refine G_getR hC fl_X6_15 (by first | assumption | rfl) (by omega) (by first | assumption | exact hGr _ _ _ rfl) dX6_rowsBetween_68 ?_
        refine G_il5 hC dX6_rowsBetween_71 ?_
        refine G_laload hC (by first | assumption | rfl) (by omega) (by omega) dX6_rowsBetween_73 ?_
        refine G_lconst (z := 0) hC dX6_rowsBetween_74 (by decide) ?_
        refine G_lcmp hC dX6_rowsBetween_75 (by rw [hwl]; omega) (by omega) ?_
        refine G_if_eq (tgt := 92) hC dX6_rowsBetween_76 (by decide) (by unfold zcmp; split <;> first | omega | (split <;> omega)) (fun c76 => ?_) (fun c76 => ?_)
        · refine G_inc5 hC dX6_rowsBetween_92 rfl ?_
          refine G_goto (tgt := 59) hC dX6_rowsBetween_95 (by decide) ?_
          have hz : w0 l = 0 := by
            rw [hwl] at c76
            unfold zcmp at c76
            split at c76 <;> first | omega | (split at c76 <;> omega)
          exact ih (l + 1) M1 _ w1 (by omega) hS1 hx1 hpa hpb (by rw [← he, if_pos hz]) (by omega)
        · refine G_al0 hC dX6_rowsBetween_79 ?_
          refine G_il5 hC dX6_rowsBetween_80 ?_
          refine G_al0 hC dX6_rowsBetween_82 ?_
          refine G_getR hC fl_X6_15 (by first | assumption | rfl) (by omega) (by first | assumption | exact hGr _ _ _ rfl) dX6_rowsBetween_83 ?_
          refine G_il5 hC dX6_rowsBetween_86 ?_
          refine G_laload hC (by first | assumption | rfl) (by omega) (by omega) dX6_rowsBetween_88 ?_
          rw [hwl]
          refine G_callVV hC (c_X6_spreadWays (w0 := w1) hGr hw hwb hS1 (by
  rcases Nat.lt_or_ge l N with z | z
  · exact z
  · exact absurd (by rw [hwl, hhi l z]; rfl) c76) hpb) mv_X6_91 (by first | assumption | rfl) (by omega) (by decide) rfl (by decide) dX6_rowsBetween_89 rfl (Nat.le_of_ble_eq_true rfl) rfl (fun M89 P89 h89 => ?_)
          obtain ⟨rfl, g1, g2, g3⟩ := h89
          refine G_inc5 hC dX6_rowsBetween_92 rfl ?_
          refine G_goto (tgt := 59) hC dX6_rowsBetween_95 (by decide) ?_
          have hz : w0 l ≠ 0 := by
            rw [hwl] at c76
            unfold zcmp at c76
            split at c76 <;> first | omega | (split at c76 <;> omega)
          have hsub : ∀ a, sWb wb a → sWX a := fun a h => by unfold sWb at h; unfold sWX; omega
          exact ih (l + 1) M89 _ _ (by omega) g1 (hx1.trans (g2.mono hsub)) (fun b hb => by rw [g2 wa (fun z => by unfold sWb at z; omega)]; exact hpa b hb) g3 (by rw [← he, if_neg hz, congrFun (hmvc M1 hx1) l]) (by omega)
  have hlO : ∀ (c e : Nat), e + c = nn → ∀ (wa wb : Nat) (P1 : PMem) (M1 : Mem) (w0 : Nat → Int) (ev : Int) (x5 : AV), isW wa wb → wyP P P1 → P1 21 2 = some wa → P1 21 3 = some wb → SI M1 15 8 4320 T N lq → eqx sWX M M1 → (∀ b, b < 720 → M1 wa b = w0 b) → (∀ b, 0 ≤ w0 b) → tot w0 720 ≤ ((36 ^ e : Nat) : Int) → (∀ b, N ≤ b → w0 b = 0) → wyN (tn T) (fun l i j => mvN M T (lq l) i j) c w0 = wyN (tn T) (fun l i j => mvN M T (lq l) i j) nn (wy0 l0) → ev = (e : Int) → G X Y 42 [vR 21, vI l0, vI l1, vI nn, vI ev, x5] [] M1 P1 := by
    intro c
    induction c with
    | zero =>
      intro e he wa wb P1 M1 w0 ev x5 hw hP1 hwa hwb hS1 hx1 hpa h0 ht0 hhi hN e1
      subst e1
      obtain ⟨ws1, ws2, wl1, wl2, wne, wn1, wn2, wc1, wc2⟩ := isW_all hw
      refine G_il4 hC dX6_rowsBetween_42 ?_
      refine G_il3 hC dX6_rowsBetween_44 ?_
      refine G_icmp_ge (tgt := 124) hC dX6_rowsBetween_45 (by decide) (by omega) (by omega) (fun c45 => ?_) (fun c45 => ?_)
      · refine G_al0 hC dX6_rowsBetween_124 ?_
        refine G_getR hC fl_X6_15 (by first | assumption | rfl) (by omega) (by first | assumption | exact hGr _ _ _ rfl) dX6_rowsBetween_125 ?_
        refine G_il2 hC dX6_rowsBetween_128 ?_
        refine G_laload hC (by first | assumption | rfl) (by omega) (by omega) dX6_rowsBetween_129 ?_
        exact G_lret hC hQ dX6_rowsBetween_130 ⟨_, rfl, hP1, hS1, hx1, by rw [show ((l1 : Nat) : Int).toNat = l1 from rfl, hpa l1 (by omega)]; exact congrFun hN l1⟩
      · exact absurd c45 (by omega)
    | succ c ih =>
      intro e he wa wb P1 M1 w0 ev x5 hw hP1 hwa hwb hS1 hx1 hpa h0 ht0 hhi hN e1
      subst e1
      obtain ⟨ws1, ws2, wl1, wl2, wne, wn1, wn2, wc1, wc2⟩ := isW_all hw
      have hpw : 36 ^ e ≤ 36 ^ 8 := Nat.pow_le_pow_right (by omega) (by omega)
      have hp8 : (36 : Nat) ^ 8 = 2821109907456 := by decide
      have hw2 : isW wb wa := by rcases hw with h | h; exact Or.inr ⟨h.2, h.1⟩; exact Or.inl ⟨h.2, h.1⟩
      have hbd := wyL_b (n := tn T) hR6 (mf := (fun l i j => mvN M T (lq l) i j)) h0 720 0 (fun _ => 0) (fun _ => Int.le_refl 0)
      have ht00 : tot (fun _ => 0) 720 = 0 := by
        have : ∀ k, tot (fun _ => 0) k = 0 := by
          intro k
          induction k with
          | zero => rfl
          | succ k ih => unfold tot; rw [ih]; rfl
        exact this 720
      have h98 : ∀ (M2 : Mem) (lv : Int), SI M2 15 8 4320 T N lq → eqx sWX M M2 → (∀ b, b < 720 → M2 wb b = wyL (tn T) (fun l i j => mvN M T (lq l) i j) w0 720 0 (fun _ => 0) b) → G X Y 98 [vR 21, vI l0, vI l1, vI nn, vI e, vI lv] [] M2 P1 := by
        intro M2 lv g1 g2 g3
        have hnext := ih (e + 1) (by omega) wb wa (upP (upP P1 21 2 (some wb)) 21 3 (some wa)) M2 (wyL (tn T) (fun l i j => mvN M T (lq l) i j) w0 720 0 (fun _ => 0)) ((e : Int) + 1) (vR wa) hw2 ⟨Gr_upW (Gr_upW hP1.1 (Or.inl rfl)) (Or.inr rfl), ⟨wb, wa, hw2, by simp [upP], by simp [upP]⟩, fun k j hkj => by
          unfold upP
          rw [if_neg (fun q => hkj ⟨q.1, Or.inr q.2⟩), if_neg (fun q => hkj ⟨q.1, Or.inl q.2⟩)]
          exact hP1.2.2 k j hkj⟩ (by simp [upP]) (by simp [upP]) g1 g2 g3 hbd.1 (by
            have h1 := hbd.2
            rw [ht00, Nat.zero_add, show tot w0 0 = 0 from rfl] at h1
            rw [Nat.pow_succ]
            omega) (wyL_hi hmfN 720 0 _ (fun _ _ => rfl)) hN (by omega)
        refine G_al0 hC dX6_rowsBetween_98 ?_
        refine G_getR hC fl_X6_15 (by first | assumption | rfl) (by omega) (by first | assumption | exact hGr _ _ _ rfl) dX6_rowsBetween_99 ?_
        refine G_as5 hC dX6_rowsBetween_102 rfl ?_
        refine G_al0 hC dX6_rowsBetween_104 ?_
        refine G_al0 hC dX6_rowsBetween_105 ?_
        refine G_getR hC fl_X6_19 (by first | assumption | rfl) (by omega) (by first | assumption | exact hGr _ _ _ rfl) dX6_rowsBetween_106 ?_
        refine G_putR hC fl_X6_15 (by first | assumption | rfl) (by omega) dX6_rowsBetween_109 ?_
        refine G_al0 hC dX6_rowsBetween_112 ?_
        refine G_al5 hC dX6_rowsBetween_113 ?_
        refine G_putR hC fl_X6_19 (by first | assumption | rfl) (by omega) dX6_rowsBetween_115 ?_
        refine G_inc4 hC dX6_rowsBetween_118 rfl ?_
        refine G_goto (tgt := 42) hC dX6_rowsBetween_121 (by decide) ?_
        exact hnext
      refine G_il4 hC dX6_rowsBetween_42 ?_
      refine G_il3 hC dX6_rowsBetween_44 ?_
      refine G_icmp_ge (tgt := 124) hC dX6_rowsBetween_45 (by decide) (by omega) (by omega) (fun c45 => ?_) (fun c45 => ?_)
      · exact absurd c45 (by omega)
      · refine G_al0 hC dX6_rowsBetween_48 ?_
        refine G_getR hC fl_X6_19 (by first | assumption | rfl) (by omega) (by first | assumption | exact hGr _ _ _ rfl) dX6_rowsBetween_49 ?_
        refine G_lconst (z := 0) hC dX6_rowsBetween_52 (by decide) ?_
        refine G_callSV hC (c_fillL ws2 (by omega)) ms_X6_88 (by decide) rfl (by decide) dX6_rowsBetween_53 rfl (Nat.le_of_ble_eq_true rfl) rfl (fun M53 P53 h53 => ?_)
        obtain ⟨rfl, rfl⟩ := h53
        refine G_iconst hC dX6_rowsBetween_56 ?_
        refine G_is5 hC dX6_rowsBetween_57 rfl ?_
        exact hlL wa wb P1 w0 hw hP1 hwa hwb h0 (by omega) hhi _ h98 720 0 _ _ (fun _ => 0) (by omega) (SI_w hS1 (fun a ha b => by unfold flM; rw [if_neg (fun q => ha (by rw [q.1]; exact wc2))])) (hx1.trans (fun a ha b => by unfold flM; rw [if_neg (fun q => ha (by unfold sWX; omega))])) (fun b hb => by unfold flM; rw [if_neg (fun q => wne q.1)]; exact hpa b hb) (fun b hb => by unfold flM; rw [if_pos ⟨rfl, hb⟩]) rfl rfl
  obtain ⟨ws1, ws2, wl1, wl2, wne, wn1, wn2, wc1, wc2⟩ := isW_all hw
  refine G_il1 hC dX6_rowsBetween_0 ?_
  refine G_if_lt (tgt := 22) hC dX6_rowsBetween_1 (by decide) (by omega) (fun c1 => ?_) (fun c1 => ?_)
  · exact absurd c1 (by omega)
  · refine G_il1 hC dX6_rowsBetween_4 ?_
    refine G_sipush hC dX6_rowsBetween_5 (by decide) ?_
    refine G_icmp_ge (tgt := 22) hC dX6_rowsBetween_8 (by decide) (by omega) (by omega) (fun c8 => ?_) (fun c8 => ?_)
    · exact absurd c8 (by omega)
    · refine G_il2 hC dX6_rowsBetween_11 ?_
      refine G_if_lt (tgt := 22) hC dX6_rowsBetween_12 (by decide) (by omega) (fun c12 => ?_) (fun c12 => ?_)
      · exact absurd c12 (by omega)
      · refine G_il2 hC dX6_rowsBetween_15 ?_
        refine G_sipush hC dX6_rowsBetween_16 (by decide) ?_
        refine G_icmp_lt (tgt := 24) hC dX6_rowsBetween_19 (by decide) (by omega) (by omega) (fun c19 => ?_) (fun c19 => ?_)
        · refine G_al0 hC dX6_rowsBetween_24 ?_
          refine G_getR hC fl_X6_15 (by first | assumption | rfl) (by omega) (by first | assumption | exact hGr _ _ _ rfl) dX6_rowsBetween_25 ?_
          refine G_lconst (z := 0) hC dX6_rowsBetween_28 (by decide) ?_
          refine G_callSV hC (c_fillL ws1 (by omega)) ms_X6_88 (by decide) rfl (by decide) dX6_rowsBetween_29 rfl (Nat.le_of_ble_eq_true rfl) rfl (fun M29 P29 h29 => ?_)
          obtain ⟨rfl, rfl⟩ := h29
          refine G_al0 hC dX6_rowsBetween_32 ?_
          refine G_getR hC fl_X6_15 (by first | assumption | rfl) (by omega) (by first | assumption | exact hGr _ _ _ rfl) dX6_rowsBetween_33 ?_
          refine G_il1 hC dX6_rowsBetween_36 ?_
          refine G_lconst (z := 1) hC dX6_rowsBetween_37 (by decide) ?_
          refine G_lastore hC (by first | assumption | rfl) (by omega) (by omega) dX6_rowsBetween_38 ?_
          refine G_iconst hC dX6_rowsBetween_39 ?_
          refine G_is4 hC dX6_rowsBetween_40 rfl ?_
          exact hlO nn 0 (by omega) wa wb P _ (wy0 l0) _ _ hw ⟨hGr, ⟨wa, wb, hw, hwa, hwb⟩, fun _ _ _ => rfl⟩ hwa hwb (SI_w hS (fun a ha b => by
            have : a ≠ wa := fun q => ha (by rw [q]; exact wc1)
            rw [upM_ne this]; unfold flM; rw [if_neg (fun q => this q.1)])) (fun a ha b => by
            have : a ≠ wa := fun q => ha (by unfold sWX; omega)
            rw [upM_ne this]; unfold flM; rw [if_neg (fun q => this q.1)]) (fun b hb => by
            rw [show ((l0 : Nat) : Int).toNat = l0 from rfl]
            unfold wy0
            simp only [upM]
            by_cases e : b = l0
            · rw [if_pos ⟨trivial, e⟩, if_pos e]
            · rw [if_neg (fun q => e q.2), if_neg e]; unfold flM; rw [if_pos ⟨rfl, hb⟩]) (fun b => by unfold wy0; split <;> omega) (by
            have := tot_up (w := fun _ => 0) (a := l0) (m := 1) 720
            have h2 : (fun b => if b = l0 then (fun _ => (0 : Int)) b + 1 else (fun _ => (0 : Int)) b) = wy0 l0 := by funext b; unfold wy0; split <;> rfl
            rw [h2, if_pos (by omega)] at this
            rw [this]
            have h3 : ∀ k, tot (fun _ => 0) k = 0 := by
              intro k
              induction k with
              | zero => rfl
              | succ k ih => unfold tot; rw [ih]; rfl
            rw [h3]; simp) (fun b hb => by unfold wy0; rw [if_neg (by omega)]) rfl rfl
        · exact absurd c19 (by omega)
