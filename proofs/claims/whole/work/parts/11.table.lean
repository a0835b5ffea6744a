/-! the graph of the objects, which stays -/
def pstC : Nat → Nat → Option Nat
  | 0, 0 => some 1
  | 0, 2 => some 2
  | 0, 3 => some 6
  | 0, 4 => some 8
  | 0, 5 => some 12
  | 0, 6 => some 15
  | 0, 7 => some 17
  | 0, 8 => some 21
  | 0, 9 => some 25
  | 0, 10 => some 36
  | 0, 11 => some 37
  | 0, 12 => some 41
  | 2, 6 => some 3
  | 2, 7 => some 4
  | 2, 8 => some 5
  | 6, 0 => some 1
  | 6, 1 => some 2
  | 6, 2 => some 7
  | 8, 6 => some 9
  | 8, 7 => some 10
  | 8, 8 => some 11
  | 12, 1 => some 13
  | 12, 2 => some 14
  | 15, 0 => some 8
  | 15, 1 => some 12
  | 15, 2 => some 16
  | 17, 0 => some 15
  | 17, 2 => some 18
  | 17, 3 => some 19
  | 17, 4 => some 20
  | 21, 0 => some 15
  | 21, 1 => some 22
  | 25, 5 => some 8
  | 25, 6 => some 17
  | 25, 7 => some 26
  | 25, 8 => some 30
  | 26, 6 => some 27
  | 26, 7 => some 28
  | 26, 8 => some 29
  | 30, 0 => some 31
  | 30, 2 => some 33
  | 30, 3 => some 34
  | 30, 4 => some 35
  | 31, 0 => some 26
  | 31, 1 => some 12
  | 31, 2 => some 32
  | 37, 2 => some 38
  | 37, 3 => some 39
  | 37, 4 => some 40
  | 41, 2 => some 42
  | 41, 3 => some 43
  | 41, 4 => some 44
  | _, _ => none
def Gr (P : PMem) : Prop := ∀ k j q, pstC k j = some q → P k j = some q
def pstM : Nat → Option Nat
  | 5 => some 46
  | 6 => some 47
  | 7 => some 48
  | 8 => some 49
  | 9 => some 50
  | 10 => some 51
  | 13 => some 52
  | 14 => some 53
  | 15 => some 54
  | 17 => some 55
  | 18 => some 56
  | 19 => some 57
  | 20 => some 58
  | 28 => some 59
  | 29 => some 60
  | 30 => some 61
  | 31 => some 62
  | 32 => some 63
  | 33 => some 64
  | 34 => some 65
  | 35 => some 66
  | 36 => some 67
  | 38 => some 68
  | 39 => some 69
  | 40 => some 70
  | 43 => some 71
  | 44 => some 72
  | 45 => some 73
  | 46 => some 74
  | 47 => some 75
  | 48 => some 76
  | _ => none
def GrM (P : PMem) : Prop := ∀ j q, pstM j = some q → P 45 j = some q
def isT (t : Nat) : Prop := t = 2 ∨ t = 8 ∨ t = 26
theorem isT_all {P : PMem} {t : Nat} (hGr : Gr P) (ht : isT t) : shp t = (7, 0) ∧ shp (t + 1) = (11, 6) ∧ shp (t + 2) = (11, 6) ∧ shp (t + 3) = (11, 36) ∧ t + 3 < 45 ∧ P t 6 = some (t + 1) ∧ P t 7 = some (t + 2) ∧ P t 8 = some (t + 3) := by
  rcases ht with rfl | rfl | rfl <;> exact ⟨rfl, rfl, rfl, rfl, by omega, hGr _ _ _ rfl, hGr _ _ _ rfl, hGr _ _ _ rfl⟩
/-! a table as numbers: guests, ring, kinds, worths -/
abbrev TB : Type := Nat × Nat × (Nat → Nat) × (Nat → Nat → Nat)
abbrev tn (T : TB) : Nat := T.1
abbrev tr (T : TB) : Nat := T.2.1
abbrev tk (T : TB) : Nat → Nat := T.2.2.1
abbrev tw (T : TB) : Nat → Nat → Nat := T.2.2.2
def TabR (M : Mem) (t : Nat) (T : TB) : Prop := M t 0 = (tn T : Int) ∧ 2 ≤ tn T ∧ tn T ≤ 6 ∧ M t 2 = (tr T : Int) ∧ tr T ≤ 1 ∧ (∀ g, g < 6 → M (t + 1) g = (tk T g : Int) ∧ tk T g ≤ 3) ∧ (∀ g d, g < 6 → d < 6 → M (t + 3) (6 * g + d) = (tw T g d : Int) ∧ tw T g d ≤ 9)
/-- what a code of a dish is worth: nothing is worth 0 -/
def wo (T : TB) (g d : Nat) : Nat := if d < 6 then tw T g d else 0
def sR (T : TB) (i j : Nat) : Nat := if i ≤ j then j - i else j + tn T - i
def hnd (T : TB) (i j : Nat) : Nat := if tr T = 0 then (if i ≤ j then j - i else i - j) else min (sR T i j) (tn T - sR T i j)
/-- 1: by the right -/
def stp (T : TB) (i j : Nat) : Nat := if tr T = 0 then (if i < j then 1 else 0) else (if sR T i j ≤ tn T - sR T i j then 1 else 0)
def nxt (T : TB) (s u : Nat) : Nat := if u = 1 then (if s + 1 < tn T then s + 1 else 0) else (if s = 0 then tn T - 1 else s - 1)
def car (T : TB) : Nat → (Nat → Nat) → Nat → Nat → Nat → Nat → (Nat → Nat)
  | 0, f, g, _, to, _ => ud f to g
  | k + 1, f, g, s, to, u => if s = to then ud f to g else if tk T s = 1 ∧ wo T s (f s) < wo T s g then car T k (ud f s g) (f s) (nxt T s u) to u else car T k f g (nxt T s u) to u
def chd (T : TB) (f : Nat → Nat) (s : Nat) : Nat → Nat := if tk T s = 3 ∧ f s ≠ 7 ∧ ¬ (tr T = 0 ∧ s + 1 = tn T) then sw f s (nxt T s 1) else f
def can (T : TB) (f : Nat → Nat) (i j : Nat) : Prop := i ≠ j ∧ i < tn T ∧ j < tn T ∧ tk T j ≠ 2 ∧ f i ≠ 7 ∧ f j ≠ 7
def aft (T : TB) (f : Nat → Nat) (i j : Nat) : Nat → Nat := chd T (chd T (car T 6 (car T 6 (ud (ud f i 7) j 7) (f i) (nxt T i (stp T i j)) j (stp T i j)) (f j) (nxt T j (1 - stp T i j)) i (1 - stp T i j)) i) j
theorem nxt_lt {T : TB} {s u : Nat} (h2 : 2 ≤ tn T) (hs : s < tn T) : nxt T s u < tn T := by unfold nxt; split <;> split <;> omega
theorem car_lo {T : TB} : ∀ (k : Nat) {f : Nat → Nat} {g s to u : Nat}, lo8 f → g < 8 → lo8 (car T k f g s to u)
  | 0, f, g, s, to, u, h, hg => ud_lo h hg
  | k + 1, f, g, s, to, u, h, hg => by
    unfold car
    split
    · exact ud_lo h hg
    · split
      · exact car_lo k (ud_lo h hg) (h s)
      · exact car_lo k h hg
theorem chd_lo {T : TB} {f : Nat → Nat} {s : Nat} (h : lo8 f) : lo8 (chd T f s) := by
  unfold chd; split
  · exact sw_lo h
  · exact h
theorem aft_lo {T : TB} {f : Nat → Nat} {i j : Nat} (h : lo8 f) : lo8 (aft T f i j) := chd_lo (chd_lo (car_lo 6 (car_lo 6 (ud_lo (ud_lo h (by omega)) (by omega)) (h i)) (h j)))
theorem sR_le {T : TB} {i j : Nat} (hi : i < tn T) (hj : j < tn T) : sR T i j < tn T ∧ sR T i j ≤ tn T - 1 := by unfold sR; split <;> omega
set_option maxHeartbeats 4000000 in
set_option maxRecDepth 100000 in
theorem c_X7_kindOf {l : Launch} {t g : Nat} {M : Mem} {P : PMem} (hGr : Gr P) (ht : isT t) (hg : g < 6) : CtI l yX7_kindOf cX7_kindOf 2 (some .int) 0 0 45 [vR t, vI g] M P (pI (M (t + 1) g) M P) := by
  refine Ct_of (own := RX7) (L := [vR t, vI g]) (by decide) rfl rfl (Nat.le_of_ble_eq_true rfl) (fun X Y hl hC hQ => ?_)
  obtain ⟨hs0, hs1, hs2, hs3, hb3, hp6, hp7, hp8⟩ := isT_all hGr ht
  refine G_il1 hC dX7_kindOf_0 ?_
  refine G_if_lt (tgt := 19) hC dX7_kindOf_1 (by decide) (by omega) (fun c1 => ?_) (fun c1 => ?_)
  · exact absurd c1 (by omega)
  · refine G_il1 hC dX7_kindOf_4 ?_
    refine G_bipush hC dX7_kindOf_5 (by decide) ?_
    refine G_icmp_ge (tgt := 19) hC dX7_kindOf_7 (by decide) (by omega) (by omega) (fun c7 => ?_) (fun c7 => ?_)
    · exact absurd c7 (by omega)
    · refine G_al0 hC dX7_kindOf_10 ?_
      refine G_getR hC fl_X7_9 (by first | assumption | rfl) (by omega) (by first | assumption | exact hGr _ _ _ rfl) dX7_kindOf_11 ?_
      refine G_il1 hC dX7_kindOf_14 ?_
      refine G_iaload hC (by first | assumption | rfl) (by omega) (by omega) dX7_kindOf_15 ?_
      refine G_goto (tgt := 20) hC dX7_kindOf_16 (by decide) ?_
      exact G_iret hC hQ dX7_kindOf_20 ⟨_, rfl, rfl, rfl, rfl⟩
set_option maxHeartbeats 4000000 in
set_option maxRecDepth 100000 in
theorem c_X7_wantsOf {l : Launch} {t g : Nat} {M : Mem} {P : PMem} (hGr : Gr P) (ht : isT t) (hg : g < 6) : CtI l yX7_wantsOf cX7_wantsOf 2 (some .int) 1 21 45 [vR t, vI g] M P (pI (M (t + 2) g) M P) := by
  refine Ct_of (own := RX7) (L := [vR t, vI g]) (by decide) rfl rfl (Nat.le_of_ble_eq_true rfl) (fun X Y hl hC hQ => ?_)
  obtain ⟨hs0, hs1, hs2, hs3, hb3, hp6, hp7, hp8⟩ := isT_all hGr ht
  refine G_al0 hC dX7_wantsOf_0 ?_
  refine G_getR hC fl_X7_15 (by first | assumption | rfl) (by omega) (by first | assumption | exact hGr _ _ _ rfl) dX7_wantsOf_1 ?_
  refine G_il1 hC dX7_wantsOf_4 ?_
  refine G_callSI hC (c_X9_at hs2 (by omega) (by omega)) ms_X7_68 (by decide) rfl (by decide) dX7_wantsOf_5 rfl (Nat.le_of_ble_eq_true rfl) rfl (fun z5 M5 P5 h5 => ?_)
  obtain ⟨rfl, rfl, rfl⟩ := h5
  exact G_iret hC hQ dX7_wantsOf_8 ⟨_, rfl, by unfold atV; rw [if_pos (by omega)]; rfl, rfl, rfl⟩
set_option maxHeartbeats 4000000 in
set_option maxRecDepth 100000 in
theorem c_X7_worthOf {l : Launch} {t g d : Nat} {T : TB} {M : Mem} {P : PMem} (hGr : Gr P) (ht : isT t) (hR : TabR M t T) (hg : g < 6) (hd : d < 8) : CtI l yX7_worthOf cX7_worthOf 3 (some .int) 0 0 45 [vR t, vI g, vI d] M P (pI (wo T g d) M P) := by
  refine Ct_of (own := RX7) (L := [vR t, vI g, vI d]) (by decide) rfl rfl (Nat.le_of_ble_eq_true rfl) (fun X Y hl hC hQ => ?_)
  obtain ⟨hs0, hs1, hs2, hs3, hb3, hp6, hp7, hp8⟩ := isT_all hGr ht
  obtain ⟨hR0, hR2, hR6, hRr, hRr1, hRk, hRw⟩ := id hR
  refine G_il1 hC dX7_worthOf_0 ?_
  refine G_if_lt (tgt := 20) hC dX7_worthOf_1 (by decide) (by omega) (fun c1 => ?_) (fun c1 => ?_)
  · exact absurd c1 (by omega)
  · refine G_il1 hC dX7_worthOf_4 ?_
    refine G_bipush hC dX7_worthOf_5 (by decide) ?_
    refine G_icmp_ge (tgt := 20) hC dX7_worthOf_7 (by decide) (by omega) (by omega) (fun c7 => ?_) (fun c7 => ?_)
    · exact absurd c7 (by omega)
    · refine G_il2 hC dX7_worthOf_10 ?_
      refine G_if_lt (tgt := 20) hC dX7_worthOf_11 (by decide) (by omega) (fun c11 => ?_) (fun c11 => ?_)
      · exact absurd c11 (by omega)
      · refine G_il2 hC dX7_worthOf_14 ?_
        refine G_bipush hC dX7_worthOf_15 (by decide) ?_
        refine G_icmp_lt (tgt := 22) hC dX7_worthOf_17 (by decide) (by omega) (by omega) (fun c17 => ?_) (fun c17 => ?_)
        · refine G_al0 hC dX7_worthOf_22 ?_
          refine G_getR hC fl_X7_18 (by first | assumption | rfl) (by omega) (by first | assumption | exact hGr _ _ _ rfl) dX7_worthOf_23 ?_
          refine G_il1 hC dX7_worthOf_26 ?_
          refine G_bipush hC dX7_worthOf_27 (by decide) ?_
          refine G_imul hC dX7_worthOf_29 ?_
          refine G_il2 hC dX7_worthOf_30 ?_
          refine G_iadd hC dX7_worthOf_31 ?_
          refine G_iaload hC (by first | assumption | rfl) (by omega) (by omega) dX7_worthOf_32 ?_
          exact G_iret hC hQ dX7_worthOf_33 ⟨_, rfl, by unfold wo; rw [if_pos (by omega), ← (hRw g d hg (by omega)).1]; congr 1; omega, rfl, rfl⟩
        · refine G_iconst hC dX7_worthOf_20 ?_
          exact G_iret hC hQ dX7_worthOf_21 ⟨_, rfl, by unfold wo; rw [if_neg (by omega)]; rfl, rfl, rfl⟩
theorem wo_le {M : Mem} {t : Nat} {T : TB} (hR : TabR M t T) {g d : Nat} (hg : g < 6) : wo T g d ≤ 9 := by
  unfold wo; split
  · exact (hR.2.2.2.2.2.2 g d hg (by omega)).2
  · omega
set_option maxHeartbeats 4000000 in
set_option maxRecDepth 100000 in
theorem c_X7_guestBy {l : Launch} {t : Nat} {T : TB} {x : Int} {M : Mem} {P : PMem} (hGr : Gr P) (ht : isT t) (hR : TabR M t T) (hx : 0 ≤ x ∧ x ≤ 2147483647) : CtI l yX7_guestBy cX7_guestBy 2 (some .int) 0 0 45 [vR t, vI x] M P (pI (x % tn T) M P) := by
  refine Ct_of (own := RX7) (L := [vR t, vI x]) (by decide) rfl rfl (Nat.le_of_ble_eq_true rfl) (fun X Y hl hC hQ => ?_)
  obtain ⟨hs0, hs1, hs2, hs3, hb3, hp6, hp7, hp8⟩ := isT_all hGr ht
  obtain ⟨hR0, hR2, hR6, hRr, hRr1, hRk, hRw⟩ := id hR
  refine G_al0 hC dX7_guestBy_0 ?_
  refine G_getI hC fl_X7_21 (by first | assumption | rfl) (by omega) dX7_guestBy_1 ?_
  refine G_if_le (tgt := 16) hC dX7_guestBy_4 (by decide) (by omega) (fun c4 => ?_) (fun c4 => ?_)
  · exact absurd c4 (by omega)
  · refine G_il1 hC dX7_guestBy_7 ?_
    refine G_al0 hC dX7_guestBy_8 ?_
    refine G_getI hC fl_X7_21 (by first | assumption | rfl) (by omega) dX7_guestBy_9 ?_
    refine G_irem hC dX7_guestBy_12 (by omega) (by omega) ?_
    refine G_goto (tgt := 17) hC dX7_guestBy_13 (by decide) ?_
    exact G_iret hC hQ dX7_guestBy_17 ⟨_, rfl, by rw [hR0], rfl, rfl⟩
set_option maxHeartbeats 4000000 in
set_option maxRecDepth 100000 in
theorem c_X7_stepsRight {l : Launch} {t i j : Nat} {T : TB} {M : Mem} {P : PMem} (hGr : Gr P) (ht : isT t) (hR : TabR M t T) (hi : i < tn T) (hj : j < tn T) : CtI l yX7_stepsRight cX7_stepsRight 3 (some .int) 0 0 45 [vR t, vI i, vI j] M P (pI (sR T i j) M P) := by
  refine Ct_of (own := RX7) (L := [vR t, vI i, vI j]) (by decide) rfl rfl (Nat.le_of_ble_eq_true rfl) (fun X Y hl hC hQ => ?_)
  obtain ⟨hs0, hs1, hs2, hs3, hb3, hp6, hp7, hp8⟩ := isT_all hGr ht
  obtain ⟨hR0, hR2, hR6, hRr, hRr1, hRk, hRw⟩ := id hR
  refine G_il2 hC dX7_stepsRight_0 ?_
  refine G_il1 hC dX7_stepsRight_1 ?_
  refine G_icmp_lt (tgt := 11) hC dX7_stepsRight_2 (by decide) (by omega) (by omega) (fun c2 => ?_) (fun c2 => ?_)
  · refine G_il2 hC dX7_stepsRight_11 ?_
    refine G_il1 hC dX7_stepsRight_12 ?_
    refine G_isub hC dX7_stepsRight_13 ?_
    refine G_al0 hC dX7_stepsRight_14 ?_
    refine G_getI hC fl_X7_21 (by first | assumption | rfl) (by omega) dX7_stepsRight_15 ?_
    refine G_iadd hC dX7_stepsRight_18 ?_
    exact G_iret hC hQ dX7_stepsRight_19 ⟨_, rfl, by unfold sR; split <;> omega, rfl, rfl⟩
  · refine G_il2 hC dX7_stepsRight_5 ?_
    refine G_il1 hC dX7_stepsRight_6 ?_
    refine G_isub hC dX7_stepsRight_7 ?_
    refine G_goto (tgt := 19) hC dX7_stepsRight_8 (by decide) ?_
    exact G_iret hC hQ dX7_stepsRight_19 ⟨_, rfl, by unfold sR; split <;> omega, rfl, rfl⟩
set_option maxHeartbeats 4000000 in
set_option maxRecDepth 100000 in
theorem c_X7_stepsBetween {l : Launch} {t i j : Nat} {T : TB} {M : Mem} {P : PMem} (hGr : Gr P) (ht : isT t) (hR : TabR M t T) (hi : i < tn T) (hj : j < tn T) : CtI l yX7_stepsBetween cX7_stepsBetween 4 (some .int) 1 22 45 [vR t, vI i, vI j] M P (pI (hnd T i j) M P) := by
  refine Ct_of (own := RX7) (L := [vR t, vI i, vI j, vX 1]) (by decide) rfl rfl (Nat.le_of_ble_eq_true rfl) (fun X Y hl hC hQ => ?_)
  obtain ⟨hs0, hs1, hs2, hs3, hb3, hp6, hp7, hp8⟩ := isT_all hGr ht
  obtain ⟨hR0, hR2, hR6, hRr, hRr1, hRk, hRw⟩ := id hR
  have hsr := sR_le hi hj
  refine G_al0 hC dX7_stepsBetween_0 ?_
  refine G_getI hC fl_X7_28 (by first | assumption | rfl) (by omega) dX7_stepsBetween_1 ?_
  refine G_if_ne (tgt := 14) hC dX7_stepsBetween_4 (by decide) (by omega) (fun c4 => ?_) (fun c4 => ?_)
  · refine G_al0 hC dX7_stepsBetween_14 ?_
    refine G_il1 hC dX7_stepsBetween_15 ?_
    refine G_il2 hC dX7_stepsBetween_16 ?_
    refine G_callVI hC (c_X7_stepsRight hGr ht hR hi hj) mv_X7_86 (by first | assumption | rfl) (by omega) (by decide) rfl (by decide) dX7_stepsBetween_17 rfl (Nat.le_of_ble_eq_true rfl) rfl (fun z17 M17 P17 h17 => ?_)
    obtain ⟨rfl, rfl, rfl⟩ := h17
    refine G_is3 hC dX7_stepsBetween_20 rfl ?_
    refine G_il3 hC dX7_stepsBetween_21 ?_
    refine G_al0 hC dX7_stepsBetween_22 ?_
    refine G_getI hC fl_X7_21 (by first | assumption | rfl) (by omega) dX7_stepsBetween_23 ?_
    refine G_il3 hC dX7_stepsBetween_26 ?_
    refine G_isub hC dX7_stepsBetween_27 ?_
    refine G_min hC mm_X7_89 (by omega) (by omega) rfl (by decide) (Nat.le_of_ble_eq_true rfl) dX7_stepsBetween_28 ?_
    exact G_iret hC hQ dX7_stepsBetween_31 ⟨_, rfl, by unfold hnd; rw [if_neg (by omega)]; omega, rfl, rfl⟩
  · refine G_il1 hC dX7_stepsBetween_7 ?_
    refine G_il2 hC dX7_stepsBetween_8 ?_
    refine G_isub hC dX7_stepsBetween_9 ?_
    refine G_abs hC mm_X7_83 (by omega) rfl (by decide) (Nat.le_of_ble_eq_true rfl) dX7_stepsBetween_10 ?_
    exact G_iret hC hQ dX7_stepsBetween_13 ⟨_, rfl, by unfold hnd; rw [if_pos (by omega)]; split <;> split <;> omega, rfl, rfl⟩
set_option maxHeartbeats 4000000 in
set_option maxRecDepth 100000 in
theorem c_X7_stepTowards {l : Launch} {t i j : Nat} {T : TB} {M : Mem} {P : PMem} (hGr : Gr P) (ht : isT t) (hR : TabR M t T) (hi : i < tn T) (hj : j < tn T) : CtI l yX7_stepTowards cX7_stepTowards 4 (some .int) 1 22 45 [vR t, vI i, vI j] M P (pI (2 * (stp T i j : Int) - 1) M P) := by
  refine Ct_of (own := RX7) (L := [vR t, vI i, vI j, vX 1]) (by decide) rfl rfl (Nat.le_of_ble_eq_true rfl) (fun X Y hl hC hQ => ?_)
  obtain ⟨hs0, hs1, hs2, hs3, hb3, hp6, hp7, hp8⟩ := isT_all hGr ht
  obtain ⟨hR0, hR2, hR6, hRr, hRr1, hRk, hRw⟩ := id hR
  have hsr := sR_le hi hj
  refine G_al0 hC dX7_stepTowards_0 ?_
  refine G_getI hC fl_X7_28 (by first | assumption | rfl) (by omega) dX7_stepTowards_1 ?_
  refine G_if_ne (tgt := 18) hC dX7_stepTowards_4 (by decide) (by omega) (fun c4 => ?_) (fun c4 => ?_)
  · refine G_al0 hC dX7_stepTowards_18 ?_
    refine G_il1 hC dX7_stepTowards_19 ?_
    refine G_il2 hC dX7_stepTowards_20 ?_
    refine G_callVI hC (c_X7_stepsRight hGr ht hR hi hj) mv_X7_86 (by first | assumption | rfl) (by omega) (by decide) rfl (by decide) dX7_stepTowards_21 rfl (Nat.le_of_ble_eq_true rfl) rfl (fun z21 M21 P21 h21 => ?_)
    obtain ⟨rfl, rfl, rfl⟩ := h21
    refine G_is3 hC dX7_stepTowards_24 rfl ?_
    refine G_il3 hC dX7_stepTowards_25 ?_
    refine G_al0 hC dX7_stepTowards_26 ?_
    refine G_getI hC fl_X7_21 (by first | assumption | rfl) (by omega) dX7_stepTowards_27 ?_
    refine G_il3 hC dX7_stepTowards_30 ?_
    refine G_isub hC dX7_stepTowards_31 ?_
    refine G_icmp_gt (tgt := 39) hC dX7_stepTowards_32 (by decide) (by omega) (by omega) (fun c32 => ?_) (fun c32 => ?_)
    · refine G_iconst hC dX7_stepTowards_39 ?_
      exact G_iret hC hQ dX7_stepTowards_40 ⟨_, rfl, by unfold stp; rw [if_neg (by omega)]; split <;> omega, rfl, rfl⟩
    · refine G_iconst hC dX7_stepTowards_35 ?_
      refine G_goto (tgt := 40) hC dX7_stepTowards_36 (by decide) ?_
      exact G_iret hC hQ dX7_stepTowards_40 ⟨_, rfl, by unfold stp; rw [if_neg (by omega)]; split <;> omega, rfl, rfl⟩
  · refine G_il2 hC dX7_stepTowards_7 ?_
    refine G_il1 hC dX7_stepTowards_8 ?_
    refine G_icmp_le (tgt := 16) hC dX7_stepTowards_9 (by decide) (by omega) (by omega) (fun c9 => ?_) (fun c9 => ?_)
    · refine G_iconst hC dX7_stepTowards_16 ?_
      exact G_iret hC hQ dX7_stepTowards_17 ⟨_, rfl, by unfold stp; rw [if_pos (by omega)]; split <;> omega, rfl, rfl⟩
    · refine G_iconst hC dX7_stepTowards_12 ?_
      refine G_goto (tgt := 17) hC dX7_stepTowards_13 (by decide) ?_
      exact G_iret hC hQ dX7_stepTowards_17 ⟨_, rfl, by unfold stp; rw [if_pos (by omega)]; split <;> omega, rfl, rfl⟩
set_option maxHeartbeats 4000000 in
set_option maxRecDepth 100000 in
theorem c_X7_nextSeat {l : Launch} {t s u : Nat} {T : TB} {sv : Int} {M : Mem} {P : PMem} (hGr : Gr P) (ht : isT t) (hR : TabR M t T) (hs : s < tn T) (hu : sv = 2 * (u : Int) - 1 ∧ u ≤ 1) : CtI l yX7_nextSeat cX7_nextSeat 4 (some .int) 0 0 45 [vR t, vI s, vI sv] M P (pI (nxt T s u) M P) := by
  refine Ct_of (own := RX7) (L := [vR t, vI s, vI sv, vX 1]) (by decide) rfl rfl (Nat.le_of_ble_eq_true rfl) (fun X Y hl hC hQ => ?_)
  obtain ⟨hs0, hs1, hs2, hs3, hb3, hp6, hp7, hp8⟩ := isT_all hGr ht
  obtain ⟨hR0, hR2, hR6, hRr, hRr1, hRk, hRw⟩ := id hR
  refine G_il1 hC dX7_nextSeat_0 ?_
  refine G_il2 hC dX7_nextSeat_1 ?_
  refine G_iadd hC dX7_nextSeat_2 ?_
  refine G_is3 hC dX7_nextSeat_3 rfl ?_
  refine G_il3 hC dX7_nextSeat_4 ?_
  refine G_if_ge (tgt := 15) hC dX7_nextSeat_5 (by decide) (by omega) (fun c5 => ?_) (fun c5 => ?_)
  · refine G_il3 hC dX7_nextSeat_15 ?_
    refine G_al0 hC dX7_nextSeat_16 ?_
    refine G_getI hC fl_X7_21 (by first | assumption | rfl) (by omega) dX7_nextSeat_17 ?_
    refine G_icmp_lt (tgt := 27) hC dX7_nextSeat_20 (by decide) (by omega) (by omega) (fun c20 => ?_) (fun c20 => ?_)
    · refine G_il3 hC dX7_nextSeat_27 ?_
      exact G_iret hC hQ dX7_nextSeat_28 ⟨_, rfl, by unfold nxt; split <;> split <;> omega, rfl, rfl⟩
    · refine G_iconst hC dX7_nextSeat_23 ?_
      refine G_goto (tgt := 28) hC dX7_nextSeat_24 (by decide) ?_
      exact G_iret hC hQ dX7_nextSeat_28 ⟨_, rfl, by unfold nxt; split <;> split <;> omega, rfl, rfl⟩
  · refine G_al0 hC dX7_nextSeat_8 ?_
    refine G_getI hC fl_X7_21 (by first | assumption | rfl) (by omega) dX7_nextSeat_9 ?_
    refine G_iconst hC dX7_nextSeat_12 ?_
    refine G_isub hC dX7_nextSeat_13 ?_
    exact G_iret hC hQ dX7_nextSeat_14 ⟨_, rfl, by unfold nxt; split <;> split <;> omega, rfl, rfl⟩
noncomputable def canI (T : TB) (f : Nat → Nat) (i j : Nat) : Int := by classical exact if can T f i j then 1 else 0
theorem canI_1 {T : TB} {f : Nat → Nat} {i j : Nat} (h : can T f i j) : canI T f i j = 1 := by unfold canI; rw [if_pos h]
theorem canI_0 {T : TB} {f : Nat → Nat} {i j : Nat} (h : ¬ can T f i j) : canI T f i j = 0 := by unfold canI; rw [if_neg h]
set_option maxHeartbeats 4000000 in
set_option maxRecDepth 100000 in
theorem c_X7_canBeAsked {l : Launch} {t i j : Nat} {T : TB} {f : Nat → Nat} {M : Mem} {P : PMem} (hGr : Gr P) (ht : isT t) (hR : TabR M t T) (hf : lo8 f) (hi : i ≤ 6) (hj : j ≤ 6) : CtI l yX7_canBeAsked cX7_canBeAsked 4 (some .boolean) 1 21 45 [vR t, vI (enc f), vI i, vI j] M P (pI (canI T f i j) M P) := by
  refine Ct_of (own := RX7) (L := [vR t, vI (enc f), vI i, vI j]) (by decide) rfl rfl (Nat.le_of_ble_eq_true rfl) (fun X Y hl hC hQ => ?_)
  obtain ⟨hs0, hs1, hs2, hs3, hb3, hp6, hp7, hp8⟩ := isT_all hGr ht
  obtain ⟨hR0, hR2, hR6, hRr, hRr1, hRk, hRw⟩ := id hR
  refine G_il2 hC dX7_canBeAsked_0 ?_
  refine G_il3 hC dX7_canBeAsked_1 ?_
  refine G_icmp_eq (tgt := 62) hC dX7_canBeAsked_2 (by decide) (by omega) (by omega) (fun c2 => ?_) (fun c2 => ?_)
  · refine G_iconst hC dX7_canBeAsked_62 ?_
    exact G_zret hC hQ dX7_canBeAsked_63 (by omega) ⟨_, rfl, by first | exact canI_1 ⟨by omega, by omega, by omega, by have := hRk j (by omega); omega, by omega, by omega⟩ | exact canI_0 (fun q => by have q1 := q.1; have q2 := q.2.1; have q3 := q.2.2.1; have q4 := q.2.2.2.1; have q5 := q.2.2.2.2.1; have q6 := q.2.2.2.2.2; omega) | exact canI_0 (fun q => by have q3 := q.2.2.1; have q4 := q.2.2.2.1; have := hRk j (by omega); omega), rfl, rfl⟩
  · refine G_il2 hC dX7_canBeAsked_5 ?_
    refine G_if_lt (tgt := 62) hC dX7_canBeAsked_6 (by decide) (by omega) (fun c6 => ?_) (fun c6 => ?_)
    · exact absurd c6 (by omega)
    · refine G_il2 hC dX7_canBeAsked_9 ?_
      refine G_al0 hC dX7_canBeAsked_10 ?_
      refine G_getI hC fl_X7_21 (by first | assumption | rfl) (by omega) dX7_canBeAsked_11 ?_
      refine G_icmp_ge (tgt := 62) hC dX7_canBeAsked_14 (by decide) (by omega) (by omega) (fun c14 => ?_) (fun c14 => ?_)
      · refine G_iconst hC dX7_canBeAsked_62 ?_
        exact G_zret hC hQ dX7_canBeAsked_63 (by omega) ⟨_, rfl, by first | exact canI_1 ⟨by omega, by omega, by omega, by have := hRk j (by omega); omega, by omega, by omega⟩ | exact canI_0 (fun q => by have q1 := q.1; have q2 := q.2.1; have q3 := q.2.2.1; have q4 := q.2.2.2.1; have q5 := q.2.2.2.2.1; have q6 := q.2.2.2.2.2; omega) | exact canI_0 (fun q => by have q3 := q.2.2.1; have q4 := q.2.2.2.1; have := hRk j (by omega); omega), rfl, rfl⟩
      · refine G_il3 hC dX7_canBeAsked_17 ?_
        refine G_if_lt (tgt := 62) hC dX7_canBeAsked_18 (by decide) (by omega) (fun c18 => ?_) (fun c18 => ?_)
        · exact absurd c18 (by omega)
        · refine G_il3 hC dX7_canBeAsked_21 ?_
          refine G_al0 hC dX7_canBeAsked_22 ?_
          refine G_getI hC fl_X7_21 (by first | assumption | rfl) (by omega) dX7_canBeAsked_23 ?_
          refine G_icmp_ge (tgt := 62) hC dX7_canBeAsked_26 (by decide) (by omega) (by omega) (fun c26 => ?_) (fun c26 => ?_)
          · refine G_iconst hC dX7_canBeAsked_62 ?_
            exact G_zret hC hQ dX7_canBeAsked_63 (by omega) ⟨_, rfl, by first | exact canI_1 ⟨by omega, by omega, by omega, by have := hRk j (by omega); omega, by omega, by omega⟩ | exact canI_0 (fun q => by have q1 := q.1; have q2 := q.2.1; have q3 := q.2.2.1; have q4 := q.2.2.2.1; have q5 := q.2.2.2.2.1; have q6 := q.2.2.2.2.2; omega) | exact canI_0 (fun q => by have q3 := q.2.2.1; have q4 := q.2.2.2.1; have := hRk j (by omega); omega), rfl, rfl⟩
          · refine G_al0 hC dX7_canBeAsked_29 ?_
            refine G_il3 hC dX7_canBeAsked_30 ?_
            refine G_callVI hC (c_X7_kindOf hGr ht (by omega)) mv_X7_45 (by first | assumption | rfl) (by omega) (by decide) rfl (by decide) dX7_canBeAsked_31 rfl (Nat.le_of_ble_eq_true rfl) rfl (fun z31 M31 P31 h31 => ?_)
            obtain ⟨rfl, rfl, rfl⟩ := h31
            refine G_iconst hC dX7_canBeAsked_34 ?_
            refine G_icmp_eq (tgt := 62) hC dX7_canBeAsked_35 (by decide) (by have := hRk j (by omega); omega) (by omega) (fun c35 => ?_) (fun c35 => ?_)
            · refine G_iconst hC dX7_canBeAsked_62 ?_
              exact G_zret hC hQ dX7_canBeAsked_63 (by omega) ⟨_, rfl, by first | exact canI_1 ⟨by omega, by omega, by omega, by have := hRk j (by omega); omega, by omega, by omega⟩ | exact canI_0 (fun q => by have q1 := q.1; have q2 := q.2.1; have q3 := q.2.2.1; have q4 := q.2.2.2.1; have q5 := q.2.2.2.2.1; have q6 := q.2.2.2.2.2; omega) | exact canI_0 (fun q => by have q3 := q.2.2.1; have q4 := q.2.2.2.1; have := hRk j (by omega); omega), rfl, rfl⟩
            · refine G_il1 hC dX7_canBeAsked_38 ?_
              refine G_il2 hC dX7_canBeAsked_39 ?_
              refine G_callSI hC (c_X9_before hf (by omega)) ms_X7_77 (by decide) rfl (by decide) dX7_canBeAsked_40 rfl (Nat.le_of_ble_eq_true rfl) rfl (fun z40 M40 P40 h40 => ?_)
              obtain ⟨rfl, rfl, rfl⟩ := h40
              refine G_bipush hC dX7_canBeAsked_43 (by decide) ?_
              refine G_icmp_eq (tgt := 62) hC dX7_canBeAsked_45 (by decide) (by have := hf i; omega) (by omega) (fun c45 => ?_) (fun c45 => ?_)
              · refine G_iconst hC dX7_canBeAsked_62 ?_
                exact G_zret hC hQ dX7_canBeAsked_63 (by omega) ⟨_, rfl, by first | exact canI_1 ⟨by omega, by omega, by omega, by have := hRk j (by omega); omega, by omega, by omega⟩ | exact canI_0 (fun q => by have q1 := q.1; have q2 := q.2.1; have q3 := q.2.2.1; have q4 := q.2.2.2.1; have q5 := q.2.2.2.2.1; have q6 := q.2.2.2.2.2; omega) | exact canI_0 (fun q => by have q3 := q.2.2.1; have q4 := q.2.2.2.1; have := hRk j (by omega); omega), rfl, rfl⟩
              · refine G_il1 hC dX7_canBeAsked_48 ?_
                refine G_il3 hC dX7_canBeAsked_49 ?_
                refine G_callSI hC (c_X9_before hf (by omega)) ms_X7_77 (by decide) rfl (by decide) dX7_canBeAsked_50 rfl (Nat.le_of_ble_eq_true rfl) rfl (fun z50 M50 P50 h50 => ?_)
                obtain ⟨rfl, rfl, rfl⟩ := h50
                refine G_bipush hC dX7_canBeAsked_53 (by decide) ?_
                refine G_icmp_eq (tgt := 62) hC dX7_canBeAsked_55 (by decide) (by have := hf j; omega) (by omega) (fun c55 => ?_) (fun c55 => ?_)
                · refine G_iconst hC dX7_canBeAsked_62 ?_
                  exact G_zret hC hQ dX7_canBeAsked_63 (by omega) ⟨_, rfl, by first | exact canI_1 ⟨by omega, by omega, by omega, by have := hRk j (by omega); omega, by omega, by omega⟩ | exact canI_0 (fun q => by have q1 := q.1; have q2 := q.2.1; have q3 := q.2.2.1; have q4 := q.2.2.2.1; have q5 := q.2.2.2.2.1; have q6 := q.2.2.2.2.2; omega) | exact canI_0 (fun q => by have q3 := q.2.2.1; have q4 := q.2.2.2.1; have := hRk j (by omega); omega), rfl, rfl⟩
                · refine G_iconst hC dX7_canBeAsked_58 ?_
                  refine G_goto (tgt := 63) hC dX7_canBeAsked_59 (by decide) ?_
                  exact G_zret hC hQ dX7_canBeAsked_63 (by omega) ⟨_, rfl, by first | exact canI_1 ⟨by omega, by omega, by omega, by have := hRk j (by omega); omega, by omega, by omega⟩ | exact canI_0 (fun q => by have q1 := q.1; have q2 := q.2.1; have q3 := q.2.2.1; have q4 := q.2.2.2.1; have q5 := q.2.2.2.2.1; have q6 := q.2.2.2.2.2; omega) | exact canI_0 (fun q => by have q3 := q.2.2.1; have q4 := q.2.2.2.1; have := hRk j (by omega); omega), rfl, rfl⟩
set_option maxHeartbeats 4000000 in
set_option maxRecDepth 100000 in
theorem c_X7_carried {l : Launch} {t d fr0 to u : Nat} {T : TB} {f : Nat → Nat} {sv : Int} {M : Mem} {P : PMem} (hGr : Gr P) (ht : isT t) (hR : TabR M t T) (hf : lo8 f) (hd : d < 8) (hfrom : fr0 < tn T) (hto : to < tn T) (hu : sv = 2 * (u : Int) - 1 ∧ u ≤ 1) : CtI l yX7_carried cX7_carried 11 (some .int) 1 23 45 [vR t, vI (enc f), vI d, vI fr0, vI to, vI sv] M P (pI (enc (car T 6 f d (nxt T fr0 u) to u)) M P) := by
  refine Ct_of (own := RX7) (L := [vR t, vI (enc f), vI d, vI fr0, vI to, vI sv, vX 1, vX 1, vX 1, vX 1, vX 1]) (by decide) rfl rfl (Nat.le_of_ble_eq_true rfl) (fun X Y hl hC hQ => ?_)
  obtain ⟨hs0, hs1, hs2, hs3, hb3, hp6, hp7, hp8⟩ := isT_all hGr ht
  obtain ⟨hR0, hR2, hR6, hRr, hRr1, hRk, hRw⟩ := id hR
  have hnx := nxt_lt (T := T) (u := u) hR2 hfrom
  have hlp : ∀ n k : Nat, k + n = 6 → ∀ (f' : Nat → Nat) (g s : Nat) (kv gv sv' wv : Int) (x10 : AV), lo8 f' → g < 8 → s < tn T → car T 6 f d (nxt T fr0 u) to u = car T n f' g s to u → kv = (k : Int) → gv = (g : Int) → sv' = (s : Int) → wv = (enc f' : Int) → G X Y 18 [vR t, vI (enc f), vI d, vI fr0, vI to, vI sv, vI wv, vI gv, vI sv', vI kv, x10] [] M P := by
    intro n
    induction n with
    | zero =>
      intro k hk f' g s kv gv sv' wv x10 hf' hg hs e e1 e2 e3 e4
      subst e1; subst e2; subst e3; subst e4
      refine G_il9 hC dX7_carried_18 ?_
      refine G_bipush hC dX7_carried_20 (by decide) ?_
      refine G_icmp_ge (tgt := 101) hC dX7_carried_22 (by decide) (by omega) (by omega) (fun c22 => ?_) (fun c22 => ?_)
      · refine G_il6 hC dX7_carried_101 ?_
        refine G_il4 hC dX7_carried_103 ?_
        refine G_il7 hC dX7_carried_105 ?_
        refine G_callSI hC (c_X9_placed hf' (by omega) hg) ms_X7_64 (by decide) rfl (by decide) dX7_carried_107 rfl (Nat.le_of_ble_eq_true rfl) rfl (fun z107 M107 P107 h107 => ?_)
        obtain ⟨rfl, rfl, rfl⟩ := h107
        exact G_iret hC hQ dX7_carried_110 ⟨_, rfl, by rw [e]; rfl, rfl, rfl⟩
      · exact absurd c22 (by omega)
    | succ n ih =>
      intro k hk f' g s kv gv sv' wv x10 hf' hg hs e e1 e2 e3 e4
      subst e1; subst e2; subst e3; subst e4
      have hks := hRk s (by omega)
      have hfs := hf' s
      have hw1 := wo_le hR (g := s) (d := g) (by omega)
      have hw2 := wo_le hR (g := s) (d := f' s) (by omega)
      have hnx' := nxt_lt (T := T) (u := u) hR2 hs
      refine G_il9 hC dX7_carried_18 ?_
      refine G_bipush hC dX7_carried_20 (by decide) ?_
      refine G_icmp_ge (tgt := 101) hC dX7_carried_22 (by decide) (by omega) (by omega) (fun c22 => ?_) (fun c22 => ?_)
      · exact absurd c22 (by omega)
      · refine G_il8 hC dX7_carried_25 ?_
        refine G_il4 hC dX7_carried_27 ?_
        refine G_icmp_eq (tgt := 101) hC dX7_carried_29 (by decide) (by omega) (by omega) (fun c29 => ?_) (fun c29 => ?_)
        · refine G_il6 hC dX7_carried_101 ?_
          refine G_il4 hC dX7_carried_103 ?_
          refine G_il7 hC dX7_carried_105 ?_
          refine G_callSI hC (c_X9_placed hf' (by omega) hg) ms_X7_64 (by decide) rfl (by decide) dX7_carried_107 rfl (Nat.le_of_ble_eq_true rfl) rfl (fun z107 M107 P107 h107 => ?_)
          obtain ⟨rfl, rfl, rfl⟩ := h107
          exact G_iret hC hQ dX7_carried_110 ⟨_, rfl, by rw [e]; rw [car, if_pos (by omega)], rfl, rfl⟩
        · refine G_il6 hC dX7_carried_32 ?_
          refine G_il8 hC dX7_carried_34 ?_
          refine G_callSI hC (c_X9_before hf' (by omega)) ms_X7_77 (by decide) rfl (by decide) dX7_carried_36 rfl (Nat.le_of_ble_eq_true rfl) rfl (fun z36 M36 P36 h36 => ?_)
          obtain ⟨rfl, rfl, rfl⟩ := h36
          refine G_is10 hC dX7_carried_39 rfl ?_
          refine G_al0 hC dX7_carried_41 ?_
          refine G_il8 hC dX7_carried_42 ?_
          refine G_callVI hC (c_X7_kindOf hGr ht (by omega)) mv_X7_45 (by first | assumption | rfl) (by omega) (by decide) rfl (by decide) dX7_carried_44 rfl (Nat.le_of_ble_eq_true rfl) rfl (fun z44 M44 P44 h44 => ?_)
          obtain ⟨rfl, rfl, rfl⟩ := h44
          refine G_iconst hC dX7_carried_47 ?_
          refine G_icmp_ne (tgt := 85) hC dX7_carried_48 (by decide) (by omega) (by omega) (fun c48 => ?_) (fun c48 => ?_)
          · refine G_al0 hC dX7_carried_85 ?_
            refine G_il8 hC dX7_carried_86 ?_
            refine G_il5 hC dX7_carried_88 ?_
            refine G_callVI hC (c_X7_nextSeat hGr ht hR hs hu) mv_X7_102 (by first | assumption | rfl) (by omega) (by decide) rfl (by decide) dX7_carried_90 rfl (Nat.le_of_ble_eq_true rfl) rfl (fun z90 M90 P90 h90 => ?_)
            obtain ⟨rfl, rfl, rfl⟩ := h90
            refine G_is8 hC dX7_carried_93 rfl ?_
            refine G_inc9 hC dX7_carried_95 rfl ?_
            refine G_goto (tgt := 18) hC dX7_carried_98 (by decide) ?_
            exact ih (k + 1) (by omega) f' g (nxt T s u) _ _ _ _ _ hf' hg hnx' (by rw [e, car, if_neg (by omega), if_neg (by omega)]) (by omega) rfl rfl rfl
          · refine G_al0 hC dX7_carried_51 ?_
            refine G_il8 hC dX7_carried_52 ?_
            refine G_il7 hC dX7_carried_54 ?_
            refine G_callVI hC (c_X7_worthOf hGr ht hR (by omega) hg) mv_X7_56 (by first | assumption | rfl) (by omega) (by decide) rfl (by decide) dX7_carried_56 rfl (Nat.le_of_ble_eq_true rfl) rfl (fun z56 M56 P56 h56 => ?_)
            obtain ⟨rfl, rfl, rfl⟩ := h56
            refine G_al0 hC dX7_carried_59 ?_
            refine G_il8 hC dX7_carried_60 ?_
            refine G_il10 hC dX7_carried_62 ?_
            refine G_callVI hC (c_X7_worthOf hGr ht hR (by omega) hfs) mv_X7_56 (by first | assumption | rfl) (by omega) (by decide) rfl (by decide) dX7_carried_64 rfl (Nat.le_of_ble_eq_true rfl) rfl (fun z64 M64 P64 h64 => ?_)
            obtain ⟨rfl, rfl, rfl⟩ := h64
            refine G_icmp_le (tgt := 85) hC dX7_carried_67 (by decide) (by omega) (by omega) (fun c67 => ?_) (fun c67 => ?_)
            · refine G_al0 hC dX7_carried_85 ?_
              refine G_il8 hC dX7_carried_86 ?_
              refine G_il5 hC dX7_carried_88 ?_
              refine G_callVI hC (c_X7_nextSeat hGr ht hR hs hu) mv_X7_102 (by first | assumption | rfl) (by omega) (by decide) rfl (by decide) dX7_carried_90 rfl (Nat.le_of_ble_eq_true rfl) rfl (fun z90 M90 P90 h90 => ?_)
              obtain ⟨rfl, rfl, rfl⟩ := h90
              refine G_is8 hC dX7_carried_93 rfl ?_
              refine G_inc9 hC dX7_carried_95 rfl ?_
              refine G_goto (tgt := 18) hC dX7_carried_98 (by decide) ?_
              exact ih (k + 1) (by omega) f' g (nxt T s u) _ _ _ _ _ hf' hg hnx' (by rw [e, car, if_neg (by omega), if_neg (by omega)]) (by omega) rfl rfl rfl
            · refine G_il6 hC dX7_carried_70 ?_
              refine G_il8 hC dX7_carried_72 ?_
              refine G_il7 hC dX7_carried_74 ?_
              refine G_callSI hC (c_X9_placed hf' (by omega) hg) ms_X7_64 (by decide) rfl (by decide) dX7_carried_76 rfl (Nat.le_of_ble_eq_true rfl) rfl (fun z76 M76 P76 h76 => ?_)
              obtain ⟨rfl, rfl, rfl⟩ := h76
              refine G_is6 hC dX7_carried_79 rfl ?_
              refine G_il10 hC dX7_carried_81 ?_
              refine G_is7 hC dX7_carried_83 rfl ?_
              refine G_al0 hC dX7_carried_85 ?_
              refine G_il8 hC dX7_carried_86 ?_
              refine G_il5 hC dX7_carried_88 ?_
              refine G_callVI hC (c_X7_nextSeat hGr ht hR hs hu) mv_X7_102 (by first | assumption | rfl) (by omega) (by decide) rfl (by decide) dX7_carried_90 rfl (Nat.le_of_ble_eq_true rfl) rfl (fun z90 M90 P90 h90 => ?_)
              obtain ⟨rfl, rfl, rfl⟩ := h90
              refine G_is8 hC dX7_carried_93 rfl ?_
              refine G_inc9 hC dX7_carried_95 rfl ?_
              refine G_goto (tgt := 18) hC dX7_carried_98 (by decide) ?_
              exact ih (k + 1) (by omega) (ud f' s g) (f' s) (nxt T s u) _ _ _ _ _ (ud_lo hf' hg) hfs hnx' (by rw [e, car, if_neg (by omega), if_pos (by omega)]) (by omega) rfl rfl rfl
  refine G_il1 hC dX7_carried_0 ?_
  refine G_is6 hC dX7_carried_1 rfl ?_
  refine G_il2 hC dX7_carried_3 ?_
  refine G_is7 hC dX7_carried_4 rfl ?_
  refine G_al0 hC dX7_carried_6 ?_
  refine G_il3 hC dX7_carried_7 ?_
  refine G_il5 hC dX7_carried_8 ?_
  refine G_callVI hC (c_X7_nextSeat hGr ht hR hfrom hu) mv_X7_102 (by first | assumption | rfl) (by omega) (by decide) rfl (by decide) dX7_carried_10 rfl (Nat.le_of_ble_eq_true rfl) rfl (fun z10 M10 P10 h10 => ?_)
  obtain ⟨rfl, rfl, rfl⟩ := h10
  refine G_is8 hC dX7_carried_13 rfl ?_
  refine G_iconst hC dX7_carried_15 ?_
  refine G_is9 hC dX7_carried_16 rfl ?_
  exact hlp 6 0 rfl f d (nxt T fr0 u) _ _ _ _ _ hf hd hnx rfl rfl rfl rfl rfl
set_option maxHeartbeats 4000000 in
set_option maxRecDepth 100000 in
theorem c_X7_childChanged {l : Launch} {t s : Nat} {T : TB} {f : Nat → Nat} {M : Mem} {P : PMem} (hGr : Gr P) (ht : isT t) (hR : TabR M t T) (hf : lo8 f) (hs : s < tn T) : CtI l yX7_childChanged cX7_childChanged 4 (some .int) 1 23 45 [vR t, vI (enc f), vI s] M P (pI (enc (chd T f s)) M P) := by
  refine Ct_of (own := RX7) (L := [vR t, vI (enc f), vI s, vX 1]) (by decide) rfl rfl (Nat.le_of_ble_eq_true rfl) (fun X Y hl hC hQ => ?_)
  obtain ⟨hs0, hs1, hs2, hs3, hb3, hp6, hp7, hp8⟩ := isT_all hGr ht
  obtain ⟨hR0, hR2, hR6, hRr, hRr1, hRk, hRw⟩ := id hR
  have hks := hRk s (by omega)
  have hfs := hf s
  have hnx' := nxt_lt (T := T) (u := 1) hR2 hs
  have hne : s ≠ nxt T s 1 := by unfold nxt; split <;> split <;> omega
  refine G_al0 hC dX7_childChanged_0 ?_
  refine G_getI hC fl_X7_28 (by first | assumption | rfl) (by omega) dX7_childChanged_1 ?_
  refine G_if_ne (tgt := 21) hC dX7_childChanged_4 (by decide) (by omega) (fun c4 => ?_) (fun c4 => ?_)
  · refine G_iconst hC dX7_childChanged_21 ?_
    refine G_is3 hC dX7_childChanged_22 rfl ?_
    refine G_al0 hC dX7_childChanged_23 ?_
    refine G_il2 hC dX7_childChanged_24 ?_
    refine G_callVI hC (c_X7_kindOf hGr ht (by omega)) mv_X7_45 (by first | assumption | rfl) (by omega) (by decide) rfl (by decide) dX7_childChanged_25 rfl (Nat.le_of_ble_eq_true rfl) rfl (fun z25 M25 P25 h25 => ?_)
    obtain ⟨rfl, rfl, rfl⟩ := h25
    refine G_iconst hC dX7_childChanged_28 ?_
    refine G_icmp_ne (tgt := 46) hC dX7_childChanged_29 (by decide) (by omega) (by omega) (fun c29 => ?_) (fun c29 => ?_)
    · refine G_il1 hC dX7_childChanged_46 ?_
      exact G_iret hC hQ dX7_childChanged_47 ⟨_, rfl, by unfold chd; rw [if_neg (by omega)], rfl, rfl⟩
    · refine G_il1 hC dX7_childChanged_32 ?_
      refine G_il2 hC dX7_childChanged_33 ?_
      refine G_callSI hC (c_X9_before hf (by omega)) ms_X7_77 (by decide) rfl (by decide) dX7_childChanged_34 rfl (Nat.le_of_ble_eq_true rfl) rfl (fun z34 M34 P34 h34 => ?_)
      obtain ⟨rfl, rfl, rfl⟩ := h34
      refine G_bipush hC dX7_childChanged_37 (by decide) ?_
      refine G_icmp_eq (tgt := 46) hC dX7_childChanged_39 (by decide) (by omega) (by omega) (fun c39 => ?_) (fun c39 => ?_)
      · refine G_il1 hC dX7_childChanged_46 ?_
        exact G_iret hC hQ dX7_childChanged_47 ⟨_, rfl, by unfold chd; rw [if_neg (by omega)], rfl, rfl⟩
      · refine G_il3 hC dX7_childChanged_42 ?_
        refine G_if_eq (tgt := 48) hC dX7_childChanged_43 (by decide) (by omega) (fun c43 => ?_) (fun c43 => ?_)
        · refine G_il1 hC dX7_childChanged_48 ?_
          refine G_il2 hC dX7_childChanged_49 ?_
          refine G_al0 hC dX7_childChanged_50 ?_
          refine G_il2 hC dX7_childChanged_51 ?_
          refine G_iconst hC dX7_childChanged_52 ?_
          refine G_callVI hC (c_X7_nextSeat (u := 1) hGr ht hR hs (by omega)) mv_X7_102 (by first | assumption | rfl) (by omega) (by decide) rfl (by decide) dX7_childChanged_53 rfl (Nat.le_of_ble_eq_true rfl) rfl (fun z53 M53 P53 h53 => ?_)
          obtain ⟨rfl, rfl, rfl⟩ := h53
          refine G_callSI hC (c_X9_changed hf (by omega) (by omega) hne) ms_X7_105 (by decide) rfl (by decide) dX7_childChanged_56 rfl (Nat.le_of_ble_eq_true rfl) rfl (fun z56 M56 P56 h56 => ?_)
          obtain ⟨rfl, rfl, rfl⟩ := h56
          exact G_iret hC hQ dX7_childChanged_59 ⟨_, rfl, by unfold chd; rw [if_pos (by omega)], rfl, rfl⟩
        · refine G_il1 hC dX7_childChanged_46 ?_
          exact G_iret hC hQ dX7_childChanged_47 ⟨_, rfl, by unfold chd; rw [if_neg (by omega)], rfl, rfl⟩
  · refine G_il2 hC dX7_childChanged_7 ?_
    refine G_al0 hC dX7_childChanged_8 ?_
    refine G_getI hC fl_X7_21 (by first | assumption | rfl) (by omega) dX7_childChanged_9 ?_
    refine G_iconst hC dX7_childChanged_12 ?_
    refine G_isub hC dX7_childChanged_13 ?_
    refine G_icmp_ne (tgt := 21) hC dX7_childChanged_14 (by decide) (by omega) (by omega) (fun c14 => ?_) (fun c14 => ?_)
    · refine G_iconst hC dX7_childChanged_21 ?_
      refine G_is3 hC dX7_childChanged_22 rfl ?_
      refine G_al0 hC dX7_childChanged_23 ?_
      refine G_il2 hC dX7_childChanged_24 ?_
      refine G_callVI hC (c_X7_kindOf hGr ht (by omega)) mv_X7_45 (by first | assumption | rfl) (by omega) (by decide) rfl (by decide) dX7_childChanged_25 rfl (Nat.le_of_ble_eq_true rfl) rfl (fun z25 M25 P25 h25 => ?_)
      obtain ⟨rfl, rfl, rfl⟩ := h25
      refine G_iconst hC dX7_childChanged_28 ?_
      refine G_icmp_ne (tgt := 46) hC dX7_childChanged_29 (by decide) (by omega) (by omega) (fun c29 => ?_) (fun c29 => ?_)
      · refine G_il1 hC dX7_childChanged_46 ?_
        exact G_iret hC hQ dX7_childChanged_47 ⟨_, rfl, by unfold chd; rw [if_neg (by omega)], rfl, rfl⟩
      · refine G_il1 hC dX7_childChanged_32 ?_
        refine G_il2 hC dX7_childChanged_33 ?_
        refine G_callSI hC (c_X9_before hf (by omega)) ms_X7_77 (by decide) rfl (by decide) dX7_childChanged_34 rfl (Nat.le_of_ble_eq_true rfl) rfl (fun z34 M34 P34 h34 => ?_)
        obtain ⟨rfl, rfl, rfl⟩ := h34
        refine G_bipush hC dX7_childChanged_37 (by decide) ?_
        refine G_icmp_eq (tgt := 46) hC dX7_childChanged_39 (by decide) (by omega) (by omega) (fun c39 => ?_) (fun c39 => ?_)
        · refine G_il1 hC dX7_childChanged_46 ?_
          exact G_iret hC hQ dX7_childChanged_47 ⟨_, rfl, by unfold chd; rw [if_neg (by omega)], rfl, rfl⟩
        · refine G_il3 hC dX7_childChanged_42 ?_
          refine G_if_eq (tgt := 48) hC dX7_childChanged_43 (by decide) (by omega) (fun c43 => ?_) (fun c43 => ?_)
          · refine G_il1 hC dX7_childChanged_48 ?_
            refine G_il2 hC dX7_childChanged_49 ?_
            refine G_al0 hC dX7_childChanged_50 ?_
            refine G_il2 hC dX7_childChanged_51 ?_
            refine G_iconst hC dX7_childChanged_52 ?_
            refine G_callVI hC (c_X7_nextSeat (u := 1) hGr ht hR hs (by omega)) mv_X7_102 (by first | assumption | rfl) (by omega) (by decide) rfl (by decide) dX7_childChanged_53 rfl (Nat.le_of_ble_eq_true rfl) rfl (fun z53 M53 P53 h53 => ?_)
            obtain ⟨rfl, rfl, rfl⟩ := h53
            refine G_callSI hC (c_X9_changed hf (by omega) (by omega) hne) ms_X7_105 (by decide) rfl (by decide) dX7_childChanged_56 rfl (Nat.le_of_ble_eq_true rfl) rfl (fun z56 M56 P56 h56 => ?_)
            obtain ⟨rfl, rfl, rfl⟩ := h56
            exact G_iret hC hQ dX7_childChanged_59 ⟨_, rfl, by unfold chd; rw [if_pos (by omega)], rfl, rfl⟩
          · refine G_il1 hC dX7_childChanged_46 ?_
            exact G_iret hC hQ dX7_childChanged_47 ⟨_, rfl, by unfold chd; rw [if_neg (by omega)], rfl, rfl⟩
    · refine G_iconst hC dX7_childChanged_17 ?_
      refine G_goto (tgt := 22) hC dX7_childChanged_18 (by decide) ?_
      refine G_is3 hC dX7_childChanged_22 rfl ?_
      refine G_al0 hC dX7_childChanged_23 ?_
      refine G_il2 hC dX7_childChanged_24 ?_
      refine G_callVI hC (c_X7_kindOf hGr ht (by omega)) mv_X7_45 (by first | assumption | rfl) (by omega) (by decide) rfl (by decide) dX7_childChanged_25 rfl (Nat.le_of_ble_eq_true rfl) rfl (fun z25 M25 P25 h25 => ?_)
      obtain ⟨rfl, rfl, rfl⟩ := h25
      refine G_iconst hC dX7_childChanged_28 ?_
      refine G_icmp_ne (tgt := 46) hC dX7_childChanged_29 (by decide) (by omega) (by omega) (fun c29 => ?_) (fun c29 => ?_)
      · refine G_il1 hC dX7_childChanged_46 ?_
        exact G_iret hC hQ dX7_childChanged_47 ⟨_, rfl, by unfold chd; rw [if_neg (by omega)], rfl, rfl⟩
      · refine G_il1 hC dX7_childChanged_32 ?_
        refine G_il2 hC dX7_childChanged_33 ?_
        refine G_callSI hC (c_X9_before hf (by omega)) ms_X7_77 (by decide) rfl (by decide) dX7_childChanged_34 rfl (Nat.le_of_ble_eq_true rfl) rfl (fun z34 M34 P34 h34 => ?_)
        obtain ⟨rfl, rfl, rfl⟩ := h34
        refine G_bipush hC dX7_childChanged_37 (by decide) ?_
        refine G_icmp_eq (tgt := 46) hC dX7_childChanged_39 (by decide) (by omega) (by omega) (fun c39 => ?_) (fun c39 => ?_)
        · refine G_il1 hC dX7_childChanged_46 ?_
          exact G_iret hC hQ dX7_childChanged_47 ⟨_, rfl, by unfold chd; rw [if_neg (by omega)], rfl, rfl⟩
        · refine G_il3 hC dX7_childChanged_42 ?_
          refine G_if_eq (tgt := 48) hC dX7_childChanged_43 (by decide) (by omega) (fun c43 => ?_) (fun c43 => ?_)
          · refine G_il1 hC dX7_childChanged_48 ?_
            refine G_il2 hC dX7_childChanged_49 ?_
            refine G_al0 hC dX7_childChanged_50 ?_
            refine G_il2 hC dX7_childChanged_51 ?_
            refine G_iconst hC dX7_childChanged_52 ?_
            refine G_callVI hC (c_X7_nextSeat (u := 1) hGr ht hR hs (by omega)) mv_X7_102 (by first | assumption | rfl) (by omega) (by decide) rfl (by decide) dX7_childChanged_53 rfl (Nat.le_of_ble_eq_true rfl) rfl (fun z53 M53 P53 h53 => ?_)
            obtain ⟨rfl, rfl, rfl⟩ := h53
            refine G_callSI hC (c_X9_changed hf (by omega) (by omega) hne) ms_X7_105 (by decide) rfl (by decide) dX7_childChanged_56 rfl (Nat.le_of_ble_eq_true rfl) rfl (fun z56 M56 P56 h56 => ?_)
            obtain ⟨rfl, rfl, rfl⟩ := h56
            exact G_iret hC hQ dX7_childChanged_59 ⟨_, rfl, by unfold chd; rw [if_pos (by omega)], rfl, rfl⟩
          · refine G_il1 hC dX7_childChanged_46 ?_
            exact G_iret hC hQ dX7_childChanged_47 ⟨_, rfl, by unfold chd; rw [if_neg (by omega)], rfl, rfl⟩
set_option maxHeartbeats 4000000 in
set_option maxRecDepth 100000 in
theorem c_X7_lieAfter {l : Launch} {t i j : Nat} {T : TB} {f : Nat → Nat} {M : Mem} {P : PMem} (hGr : Gr P) (ht : isT t) (hR : TabR M t T) (hf : lo8 f) (hi : i < tn T) (hj : j < tn T) : CtI l yX7_lieAfter cX7_lieAfter 6 (some .int) 2 53 45 [vR t, vI (enc f), vI i, vI j] M P (pI (enc (aft T f i j)) M P) := by
  refine Ct_of (own := RX7) (L := [vR t, vI (enc f), vI i, vI j, vX 1, vX 1]) (by decide) rfl rfl (Nat.le_of_ble_eq_true rfl) (fun X Y hl hC hQ => ?_)
  obtain ⟨hs0, hs1, hs2, hs3, hb3, hp6, hp7, hp8⟩ := isT_all hGr ht
  obtain ⟨hR0, hR2, hR6, hRr, hRr1, hRk, hRw⟩ := id hR
  have hst : stp T i j ≤ 1 := by unfold stp; split <;> split <;> omega
  have hl1 : lo8 (ud f i 7) := ud_lo hf (by omega)
  have hl2 : lo8 (ud (ud f i 7) j 7) := ud_lo hl1 (by omega)
  have hl3 := car_lo (T := T) 6 (g := f i) (s := nxt T i (stp T i j)) (to := j) (u := stp T i j) hl2 (hf i)
  have hl4 := car_lo (T := T) 6 (g := f j) (s := nxt T j (1 - stp T i j)) (to := i) (u := 1 - stp T i j) hl3 (hf j)
  refine G_al0 hC dX7_lieAfter_0 ?_
  refine G_il2 hC dX7_lieAfter_1 ?_
  refine G_il3 hC dX7_lieAfter_2 ?_
  refine G_callVI hC (c_X7_stepTowards hGr ht hR hi hj) mv_X7_92 (by first | assumption | rfl) (by omega) (by decide) rfl (by decide) dX7_lieAfter_3 rfl (Nat.le_of_ble_eq_true rfl) rfl (fun z3 M3 P3 h3 => ?_)
  obtain ⟨rfl, rfl, rfl⟩ := h3
  refine G_is4 hC dX7_lieAfter_6 rfl ?_
  refine G_il1 hC dX7_lieAfter_8 ?_
  refine G_il2 hC dX7_lieAfter_9 ?_
  refine G_bipush hC dX7_lieAfter_10 (by decide) ?_
  refine G_callSI hC (c_X9_placed (d := 7) hf (by omega) (by omega)) ms_X7_64 (by decide) rfl (by decide) dX7_lieAfter_12 rfl (Nat.le_of_ble_eq_true rfl) rfl (fun z12 M12 P12 h12 => ?_)
  obtain ⟨rfl, rfl, rfl⟩ := h12
  refine G_il3 hC dX7_lieAfter_15 ?_
  refine G_bipush hC dX7_lieAfter_16 (by decide) ?_
  refine G_callSI hC (c_X9_placed (d := 7) hl1 (by omega) (by omega)) ms_X7_64 (by decide) rfl (by decide) dX7_lieAfter_18 rfl (Nat.le_of_ble_eq_true rfl) rfl (fun z18 M18 P18 h18 => ?_)
  obtain ⟨rfl, rfl, rfl⟩ := h18
  refine G_is5 hC dX7_lieAfter_21 rfl ?_
  refine G_al0 hC dX7_lieAfter_23 ?_
  refine G_il5 hC dX7_lieAfter_24 ?_
  refine G_il1 hC dX7_lieAfter_26 ?_
  refine G_il2 hC dX7_lieAfter_27 ?_
  refine G_callSI hC (c_X9_before hf (by omega)) ms_X7_77 (by decide) rfl (by decide) dX7_lieAfter_28 rfl (Nat.le_of_ble_eq_true rfl) rfl (fun z28 M28 P28 h28 => ?_)
  obtain ⟨rfl, rfl, rfl⟩ := h28
  refine G_il2 hC dX7_lieAfter_31 ?_
  refine G_il3 hC dX7_lieAfter_32 ?_
  refine G_il4 hC dX7_lieAfter_33 ?_
  refine G_callVI hC (c_X7_carried (u := stp T i j) hGr ht hR hl2 (hf i) hi hj ⟨rfl, hst⟩) mv_X7_95 (by first | assumption | rfl) (by omega) (by decide) rfl (by decide) dX7_lieAfter_35 rfl (Nat.le_of_ble_eq_true rfl) rfl (fun z35 M35 P35 h35 => ?_)
  obtain ⟨rfl, rfl, rfl⟩ := h35
  refine G_is5 hC dX7_lieAfter_38 rfl ?_
  refine G_al0 hC dX7_lieAfter_40 ?_
  refine G_il5 hC dX7_lieAfter_41 ?_
  refine G_il1 hC dX7_lieAfter_43 ?_
  refine G_il3 hC dX7_lieAfter_44 ?_
  refine G_callSI hC (c_X9_before hf (by omega)) ms_X7_77 (by decide) rfl (by decide) dX7_lieAfter_45 rfl (Nat.le_of_ble_eq_true rfl) rfl (fun z45 M45 P45 h45 => ?_)
  obtain ⟨rfl, rfl, rfl⟩ := h45
  refine G_il3 hC dX7_lieAfter_48 ?_
  refine G_il2 hC dX7_lieAfter_49 ?_
  refine G_il4 hC dX7_lieAfter_50 ?_
  refine G_ineg hC dX7_lieAfter_52 ?_
  refine G_callVI hC (c_X7_carried (u := 1 - stp T i j) hGr ht hR hl3 (hf j) hj hi (by omega)) mv_X7_95 (by first | assumption | rfl) (by omega) (by decide) rfl (by decide) dX7_lieAfter_53 rfl (Nat.le_of_ble_eq_true rfl) rfl (fun z53 M53 P53 h53 => ?_)
  obtain ⟨rfl, rfl, rfl⟩ := h53
  refine G_is5 hC dX7_lieAfter_56 rfl ?_
  refine G_al0 hC dX7_lieAfter_58 ?_
  refine G_al0 hC dX7_lieAfter_59 ?_
  refine G_il5 hC dX7_lieAfter_60 ?_
  refine G_il2 hC dX7_lieAfter_62 ?_
  refine G_callVI hC (c_X7_childChanged hGr ht hR hl4 hi) mv_X7_99 (by first | assumption | rfl) (by omega) (by decide) rfl (by decide) dX7_lieAfter_63 rfl (Nat.le_of_ble_eq_true rfl) rfl (fun z63 M63 P63 h63 => ?_)
  obtain ⟨rfl, rfl, rfl⟩ := h63
  refine G_il3 hC dX7_lieAfter_66 ?_
  refine G_callVI hC (c_X7_childChanged hGr ht hR (chd_lo hl4) hj) mv_X7_99 (by first | assumption | rfl) (by omega) (by decide) rfl (by decide) dX7_lieAfter_67 rfl (Nat.le_of_ble_eq_true rfl) rfl (fun z67 M67 P67 h67 => ?_)
  obtain ⟨rfl, rfl, rfl⟩ := h67
  exact G_iret hC hQ dX7_lieAfter_70 ⟨_, rfl, rfl, rfl, rfl⟩
