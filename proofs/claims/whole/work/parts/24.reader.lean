/-! the text -/
abbrev TS : Type := (Nat × Nat × Nat × Nat × Nat) × (Nat → Nat) × (Nat → Nat) × (Nat → Nat) × (Nat → Nat → Nat)
abbrev qn (S : TS) : Nat := S.1.1
abbrev qd (S : TS) : Nat := S.1.2.1
abbrev qr (S : TS) : Nat := S.1.2.2.1
abbrev qs (S : TS) : Nat := S.1.2.2.2.1
abbrev qc (S : TS) : Nat := S.1.2.2.2.2
abbrev qf (S : TS) : Nat → Nat := S.2.1
abbrev qk (S : TS) : Nat → Nat := S.2.2.1
abbrev qw (S : TS) : Nat → Nat := S.2.2.2.1
abbrev qv (S : TS) : Nat → Nat → Nat := S.2.2.2.2
def ts0 : TS := ((0, 3, 0, 9, 1), fun _ => 7, fun _ => 0, fun _ => 0, fun _ _ => 1)
def figN (tx : Nat → Nat) (len p : Nat) : Option Nat := if p < len ∧ 48 ≤ tx p ∧ tx p ≤ 57 then some (tx p - 48) else none
def numN (tx : Nat → Nat) (len p : Nat) : Option (Nat × Nat) := match figN tx len p with
  | none => none
  | some a => match figN tx len (p + 1) with
    | none => some (a, p + 1)
    | some b => some (10 * a + b, p + 2)
def gOK (S : TS) (k d w : Nat) : Prop := qn S < 6 ∧ k ≤ 3 ∧ (d = 9 ∨ (d < qd S ∧ ∀ i, i < 6 → qf S i ≠ d)) ∧ w < 2 ^ qd S
def addG (S : TS) (k d w : Nat) : TS := ((qn S + 1, qd S, qr S, qs S, qc S), ud (qf S) (qn S) (if d = 9 then 7 else d), ud (qk S) (qn S) k, ud (qw S) (qn S) w, fun g => if g = qn S then fun _ => 1 else qv S g)
def nsp (tx : Nat → Nat) (len q sep : Nat) : Option (Nat × Nat) := match numN tx len q with
  | none => none
  | some (v, q1) => if q1 < len ∧ tx q1 = sep then some (v, q1 + 1) else none
noncomputable def gEnd (S : TS) (k d w p3 : Nat) : Option (Nat × TS) := by classical exact if gOK S k d w then some (p3, addG S k d w) else none
noncomputable def itmG (tx : Nat → Nat) (len p : Nat) (S : TS) : Option (Nat × TS) := match nsp tx len p 44 with
  | none => none
  | some (k, p1) => match nsp tx len p1 44 with
    | none => none
    | some (d, p2) => match nsp tx len p2 59 with
      | none => none
      | some (w, p3) => gEnd S k d w p3
def setW (S : TS) (x : Nat → Nat) : TS := (S.1, qf S, qk S, qw S, fun g => if g + 1 = qn S then fun d => if d < qd S then x d else qv S g d else qv S g)
noncomputable def itmW (tx : Nat → Nat) (len p : Nat) (S : TS) : Option (Nat × TS) := by classical exact if qn S ≠ 0 ∧ (∀ d, d < qd S → p + d < len ∧ 48 ≤ tx (p + d) ∧ tx (p + d) ≤ 57) ∧ p + qd S < len ∧ tx (p + qd S) = 59 then some (p + qd S + 1, setW S (fun d => tx (p + d) - 48)) else none
def nEnd (S : TS) (c v p1 : Nat) : Option (Nat × TS) :=
  if c = 100 then (if 1 ≤ v ∧ v ≤ 6 ∧ qn S = 0 then some (p1, ((qn S, v, qr S, qs S, qc S), S.2)) else none)
  else if c = 114 then (if v ≤ 1 then some (p1, ((qn S, qd S, v, qs S, qc S), S.2)) else none)
  else if c = 115 then some (p1, ((qn S, qd S, qr S, v, qc S), S.2))
  else if c = 99 then (if v ≤ 9 then some (p1, ((qn S, qd S, qr S, qs S, v), S.2)) else none)
  else none
def itmN (tx : Nat → Nat) (len c p : Nat) (S : TS) : Option (Nat × TS) := match nsp tx len p 59 with
  | none => none
  | some (v, p1) => nEnd S c v p1
noncomputable def itm (tx : Nat → Nat) (len p : Nat) (S : TS) : Option (Nat × TS) := if tx p = 119 then itmW tx len (p + 1) S else if tx p = 103 then itmG tx len (p + 1) S else itmN tx len (tx p) (p + 1) S
noncomputable def prsF (tx : Nat → Nat) (len : Nat) : Nat → Nat → TS → Nat ⊕ TS
  | 0, _, S => .inr S
  | c + 1, p, S => if p < len then (match itm tx len p S with
    | none => .inl p
    | some (p', S') => prsF tx len c p' S') else .inr S
theorem figN_le {tx : Nat → Nat} {len p a : Nat} (h : figN tx len p = some a) : a ≤ 9 := by
  unfold figN at h; split at h
  · cases h; omega
  · cases h
theorem numN_le {tx : Nat → Nat} {len p v p1 : Nat} (h : numN tx len p = some (v, p1)) : v ≤ 99 ∧ p < p1 ∧ p1 ≤ p + 2 := by
  unfold numN at h
  cases h1 : figN tx len p with
  | none => rw [h1] at h; cases h
  | some a =>
    rw [h1] at h
    have := figN_le h1
    cases h2 : figN tx len (p + 1) with
    | none => rw [h2] at h; cases h; omega
    | some b =>
      rw [h2] at h
      have := figN_le h2
      cases h; omega
/-- the text as the memory holds it -/
def TxR (M : Mem) (tx : Nat → Nat) : Prop := ∀ k, k < 300 → M 1 k = (tx k : Int) ∧ tx k < 256
/-- rows of the told table, whatever was read -/
def ToB (M : Mem) : Prop := (∀ g, g < 6 → (0 ≤ M 3 g ∧ M 3 g ≤ 3) ∧ (0 ≤ M 4 g ∧ M 4 g < 64)) ∧ ∀ b, b < 36 → 0 ≤ M 5 b ∧ M 5 b ≤ 9
def ToR (M : Mem) (S : TS) : Prop := M 2 0 = (qn S : Int) ∧ M 2 1 = (qd S : Int) ∧ M 2 2 = (qr S : Int) ∧ M 2 3 = (qs S : Int) ∧ M 2 4 = (qc S : Int) ∧ M 2 5 = (enc (qf S) : Int) ∧ qn S ≤ 6 ∧ 1 ≤ qd S ∧ qd S ≤ 6 ∧ qr S ≤ 1 ∧ qs S ≤ 99 ∧ qc S ≤ 9 ∧ (∀ i, qf S i < 6 ∨ qf S i = 7) ∧ (∀ i, qn S ≤ i → qf S i = 7) ∧ (∀ i, qf S i ≠ 7 → qf S i < qd S) ∧ (∀ i j, qf S i ≠ 7 → qf S i = qf S j → i = j) ∧ (∀ g, g < qn S → M 3 g = (qk S g : Int) ∧ qk S g ≤ 3 ∧ M 4 g = (qw S g : Int) ∧ qw S g < 2 ^ qd S ∧ ∀ d, d < 6 → M 5 (6 * g + d) = (qv S g d : Int) ∧ qv S g d ≤ 9)
def sRd : Nat → Prop := fun a => a = 2 ∨ a = 3 ∨ a = 4 ∨ a = 5 ∨ a = 6 ∨ a = 7
theorem isT2 : isT 2 := Or.inl rfl
def sgZ (tx : Nat → Nat) (len p : Nat) : Int := if p < len then (tx p : Int) else -1
set_option maxHeartbeats 4000000 in
set_option maxRecDepth 100000 in
theorem c_X4_nextByte {l : Launch} {tx : Nat → Nat} {len p : Nat} {M : Mem} {P : PMem} (hGr : Gr P) (hT : TxR M tx) (hE : M 6 3 = (len : Int)) (hlen : len ≤ 300) (hp : M 6 4 = (p : Int)) (hp9 : p ≤ 2000)  : CtI l yX4_nextByte cX4_nextByte 2 (some .int) 1 21 45 [vR 6] M P (pI (sgZ tx len p) (upM M 6 4 (p + 1)) P) := by
  refine Ct_of (own := RX4) (L := [vR 6, vX 1]) (by decide) rfl rfl (Nat.le_of_ble_eq_true rfl) (fun X Y hl hC hQ => ?_)
  refine G_al0 hC dX4_nextByte_0 ?_
  refine G_getI hC fl_X4_31 (by first | assumption | rfl) (by omega) dX4_nextByte_1 ?_
  refine G_al0 hC dX4_nextByte_4 ?_
  refine G_getI hC fl_X4_27 (by first | assumption | rfl) (by omega) dX4_nextByte_5 ?_
  refine G_icmp_ge (tgt := 25) hC dX4_nextByte_8 (by decide) (by omega) (by omega) (fun c8 => ?_) (fun c8 => ?_)
  · refine G_iconst hC dX4_nextByte_25 ?_
    refine G_is1 hC dX4_nextByte_26 rfl ?_
    refine G_al0 hC dX4_nextByte_27 ?_
    refine G_dup hC dX4_nextByte_28 rfl ?_
    refine G_getI hC fl_X4_31 (by first | assumption | rfl) (by omega) dX4_nextByte_29 ?_
    refine G_iconst hC dX4_nextByte_32 ?_
    refine G_iadd hC dX4_nextByte_33 ?_
    refine G_putI hC fl_X4_31 (by first | assumption | rfl) (by omega) dX4_nextByte_34 ?_
    refine G_il1 hC dX4_nextByte_37 ?_
    exact G_iret hC hQ dX4_nextByte_38 ⟨_, rfl, by
  unfold sgZ
  first
    | (rw [if_neg (by omega)]; done)
    | (rw [if_pos (by omega), (hT p (by omega)).1]; done), by rw [hp], rfl⟩
  · refine G_al0 hC dX4_nextByte_11 ?_
    refine G_getR hC fl_X4_15 (by first | assumption | rfl) (by omega) (by first | assumption | exact hGr _ _ _ rfl) dX4_nextByte_12 ?_
    refine G_al0 hC dX4_nextByte_15 ?_
    refine G_getI hC fl_X4_31 (by first | assumption | rfl) (by omega) dX4_nextByte_16 ?_
    rw [hp]
    refine G_callSI hC (c_atN (z := 300) rfl (by omega) (by omega)) ms_X4_49 (by decide) rfl (by decide) dX4_nextByte_19 rfl (Nat.le_of_ble_eq_true rfl) rfl (fun z19 M19 P19 h19 => ?_)
    obtain ⟨rfl, rfl, rfl⟩ := h19
    refine G_goto (tgt := 26) hC dX4_nextByte_22 (by decide) ?_
    refine G_is1 hC dX4_nextByte_26 rfl ?_
    refine G_al0 hC dX4_nextByte_27 ?_
    refine G_dup hC dX4_nextByte_28 rfl ?_
    refine G_getI hC fl_X4_31 (by first | assumption | rfl) (by omega) dX4_nextByte_29 ?_
    refine G_iconst hC dX4_nextByte_32 ?_
    refine G_iadd hC dX4_nextByte_33 ?_
    refine G_putI hC fl_X4_31 (by first | assumption | rfl) (by omega) dX4_nextByte_34 ?_
    refine G_il1 hC dX4_nextByte_37 ?_
    exact G_iret hC hQ dX4_nextByte_38 ⟨_, rfl, by
  unfold sgZ
  first
    | (rw [if_neg (by omega)]; done)
    | (rw [if_pos (by omega), (hT p (by omega)).1]; done), by rw [hp], rfl⟩
set_option maxHeartbeats 4000000 in
set_option maxRecDepth 100000 in
theorem c_X4_nextFig0 {l : Launch} {tx : Nat → Nat} {len p : Nat} {M : Mem} {P : PMem} (hGr : Gr P) (hT : TxR M tx) (hE : M 6 3 = (len : Int)) (hlen : len ≤ 300) (hp : M 6 4 = (p : Int)) (hp9 : p ≤ 2000) (hn : figN tx len p = none) : CtI l yX4_nextFigure cX4_nextFigure 2 (some .int) 1 21 45 [vR 6] M P (pI (-1) M P) := by
  refine Ct_of (own := RX4) (L := [vR 6, vX 1]) (by decide) rfl rfl (Nat.le_of_ble_eq_true rfl) (fun X Y hl hC hQ => ?_)
  have hf := hn
  unfold figN at hf
  have hf' : ¬ (p < len ∧ 48 ≤ tx p ∧ tx p ≤ 57) := fun q => by rw [if_pos q] at hf; cases hf
  refine G_al0 hC dX4_nextFigure_0 ?_
  refine G_getI hC fl_X4_31 (by first | assumption | rfl) (by omega) dX4_nextFigure_1 ?_
  refine G_al0 hC dX4_nextFigure_4 ?_
  refine G_getI hC fl_X4_27 (by first | assumption | rfl) (by omega) dX4_nextFigure_5 ?_
  refine G_icmp_ge (tgt := 25) hC dX4_nextFigure_8 (by decide) (by omega) (by omega) (fun c8 => ?_) (fun c8 => ?_)
  · refine G_iconst hC dX4_nextFigure_25 ?_
    refine G_is1 hC dX4_nextFigure_26 rfl ?_
    refine G_il1 hC dX4_nextFigure_27 ?_
    refine G_bipush hC dX4_nextFigure_28 (by decide) ?_
    refine G_icmp_lt (tgt := 39) hC dX4_nextFigure_30 (by decide) (by omega) (by omega) (fun c30 => ?_) (fun c30 => ?_)
    · refine G_iconst hC dX4_nextFigure_39 ?_
      exact G_iret hC hQ dX4_nextFigure_40 ⟨_, rfl, rfl, rfl, rfl⟩
    · refine G_il1 hC dX4_nextFigure_33 ?_
      refine G_bipush hC dX4_nextFigure_34 (by decide) ?_
      refine G_icmp_le (tgt := 41) hC dX4_nextFigure_36 (by decide) (by omega) (by omega) (fun c36 => ?_) (fun c36 => ?_)
      · refine G_al0 hC dX4_nextFigure_41 ?_
        refine G_dup hC dX4_nextFigure_42 rfl ?_
        refine G_getI hC fl_X4_31 (by first | assumption | rfl) (by omega) dX4_nextFigure_43 ?_
        refine G_iconst hC dX4_nextFigure_46 ?_
        refine G_iadd hC dX4_nextFigure_47 ?_
        refine G_putI hC fl_X4_31 (by first | assumption | rfl) (by omega) dX4_nextFigure_48 ?_
        refine G_il1 hC dX4_nextFigure_51 ?_
        refine G_bipush hC dX4_nextFigure_52 (by decide) ?_
        refine G_isub hC dX4_nextFigure_54 ?_
        refine G_iret hC hQ dX4_nextFigure_55 ?_
        exact absurd ⟨by omega, by omega, by omega⟩ hf'
      · refine G_iconst hC dX4_nextFigure_39 ?_
        exact G_iret hC hQ dX4_nextFigure_40 ⟨_, rfl, rfl, rfl, rfl⟩
  · refine G_al0 hC dX4_nextFigure_11 ?_
    refine G_getR hC fl_X4_15 (by first | assumption | rfl) (by omega) (by first | assumption | exact hGr _ _ _ rfl) dX4_nextFigure_12 ?_
    refine G_al0 hC dX4_nextFigure_15 ?_
    refine G_getI hC fl_X4_31 (by first | assumption | rfl) (by omega) dX4_nextFigure_16 ?_
    rw [hp]
    refine G_callSI hC (c_atN (z := 300) rfl (by omega) (by omega)) ms_X4_49 (by decide) rfl (by decide) dX4_nextFigure_19 rfl (Nat.le_of_ble_eq_true rfl) rfl (fun z19 M19 P19 h19 => ?_)
    obtain ⟨rfl, rfl, rfl⟩ := h19
    rw [(hT p (by omega)).1]
    have ht2 := (hT p (by omega)).2
    refine G_goto (tgt := 26) hC dX4_nextFigure_22 (by decide) ?_
    refine G_is1 hC dX4_nextFigure_26 rfl ?_
    refine G_il1 hC dX4_nextFigure_27 ?_
    refine G_bipush hC dX4_nextFigure_28 (by decide) ?_
    refine G_icmp_lt (tgt := 39) hC dX4_nextFigure_30 (by decide) (by omega) (by omega) (fun c30 => ?_) (fun c30 => ?_)
    · refine G_iconst hC dX4_nextFigure_39 ?_
      exact G_iret hC hQ dX4_nextFigure_40 ⟨_, rfl, rfl, rfl, rfl⟩
    · refine G_il1 hC dX4_nextFigure_33 ?_
      refine G_bipush hC dX4_nextFigure_34 (by decide) ?_
      refine G_icmp_le (tgt := 41) hC dX4_nextFigure_36 (by decide) (by omega) (by omega) (fun c36 => ?_) (fun c36 => ?_)
      · refine G_al0 hC dX4_nextFigure_41 ?_
        refine G_dup hC dX4_nextFigure_42 rfl ?_
        refine G_getI hC fl_X4_31 (by first | assumption | rfl) (by omega) dX4_nextFigure_43 ?_
        refine G_iconst hC dX4_nextFigure_46 ?_
        refine G_iadd hC dX4_nextFigure_47 ?_
        refine G_putI hC fl_X4_31 (by first | assumption | rfl) (by omega) dX4_nextFigure_48 ?_
        refine G_il1 hC dX4_nextFigure_51 ?_
        refine G_bipush hC dX4_nextFigure_52 (by decide) ?_
        refine G_isub hC dX4_nextFigure_54 ?_
        refine G_iret hC hQ dX4_nextFigure_55 ?_
        exact absurd ⟨by omega, by omega, by omega⟩ hf'
      · refine G_iconst hC dX4_nextFigure_39 ?_
        exact G_iret hC hQ dX4_nextFigure_40 ⟨_, rfl, rfl, rfl, rfl⟩
set_option maxHeartbeats 4000000 in
set_option maxRecDepth 100000 in
theorem c_X4_nextFig1 {l : Launch} {tx : Nat → Nat} {len p a : Nat} {M : Mem} {P : PMem} (hGr : Gr P) (hT : TxR M tx) (hE : M 6 3 = (len : Int)) (hlen : len ≤ 300) (hp : M 6 4 = (p : Int)) (hp9 : p ≤ 2000) (hn : figN tx len p = some a) : CtI l yX4_nextFigure cX4_nextFigure 2 (some .int) 1 21 45 [vR 6] M P (pI a (upM M 6 4 (p + 1)) P) := by
  refine Ct_of (own := RX4) (L := [vR 6, vX 1]) (by decide) rfl rfl (Nat.le_of_ble_eq_true rfl) (fun X Y hl hC hQ => ?_)
  have hf := hn
  unfold figN at hf
  have hf' : p < len ∧ 48 ≤ tx p ∧ tx p ≤ 57 := by
    by_cases q : p < len ∧ 48 ≤ tx p ∧ tx p ≤ 57
    · exact q
    · rw [if_neg q] at hf; cases hf
  have ha : a = tx p - 48 := by rw [if_pos hf'] at hf; cases hf; rfl
  have ht2 := hT p (by omega)
  refine G_al0 hC dX4_nextFigure_0 ?_
  refine G_getI hC fl_X4_31 (by first | assumption | rfl) (by omega) dX4_nextFigure_1 ?_
  refine G_al0 hC dX4_nextFigure_4 ?_
  refine G_getI hC fl_X4_27 (by first | assumption | rfl) (by omega) dX4_nextFigure_5 ?_
  refine G_icmp_ge (tgt := 25) hC dX4_nextFigure_8 (by decide) (by omega) (by omega) (fun c8 => ?_) (fun c8 => ?_)
  · exact absurd c8 (by omega)
  · refine G_al0 hC dX4_nextFigure_11 ?_
    refine G_getR hC fl_X4_15 (by first | assumption | rfl) (by omega) (by first | assumption | exact hGr _ _ _ rfl) dX4_nextFigure_12 ?_
    refine G_al0 hC dX4_nextFigure_15 ?_
    refine G_getI hC fl_X4_31 (by first | assumption | rfl) (by omega) dX4_nextFigure_16 ?_
    rw [hp]
    refine G_callSI hC (c_atN (z := 300) rfl (by omega) (by omega)) ms_X4_49 (by decide) rfl (by decide) dX4_nextFigure_19 rfl (Nat.le_of_ble_eq_true rfl) rfl (fun z19 M19 P19 h19 => ?_)
    obtain ⟨rfl, rfl, rfl⟩ := h19
    rw [ht2.1]
    refine G_goto (tgt := 26) hC dX4_nextFigure_22 (by decide) ?_
    refine G_is1 hC dX4_nextFigure_26 rfl ?_
    refine G_il1 hC dX4_nextFigure_27 ?_
    refine G_bipush hC dX4_nextFigure_28 (by decide) ?_
    refine G_icmp_lt (tgt := 39) hC dX4_nextFigure_30 (by decide) (by omega) (by omega) (fun c30 => ?_) (fun c30 => ?_)
    · exact absurd c30 (by omega)
    · refine G_il1 hC dX4_nextFigure_33 ?_
      refine G_bipush hC dX4_nextFigure_34 (by decide) ?_
      refine G_icmp_le (tgt := 41) hC dX4_nextFigure_36 (by decide) (by omega) (by omega) (fun c36 => ?_) (fun c36 => ?_)
      · refine G_al0 hC dX4_nextFigure_41 ?_
        refine G_dup hC dX4_nextFigure_42 rfl ?_
        refine G_getI hC fl_X4_31 (by first | assumption | rfl) (by omega) dX4_nextFigure_43 ?_
        refine G_iconst hC dX4_nextFigure_46 ?_
        refine G_iadd hC dX4_nextFigure_47 ?_
        refine G_putI hC fl_X4_31 (by first | assumption | rfl) (by omega) dX4_nextFigure_48 ?_
        refine G_il1 hC dX4_nextFigure_51 ?_
        refine G_bipush hC dX4_nextFigure_52 (by decide) ?_
        refine G_isub hC dX4_nextFigure_54 ?_
        exact G_iret hC hQ dX4_nextFigure_55 ⟨_, rfl, by omega, by rw [hp], rfl⟩
      · exact absurd c36 (by omega)
set_option maxHeartbeats 4000000 in
set_option maxRecDepth 100000 in
theorem c_X4_readNum0 {l : Launch} {tx : Nat → Nat} {len p k : Nat} {M : Mem} {P : PMem} (hGr : Gr P) (hT : TxR M tx) (hE : M 6 3 = (len : Int)) (hlen : len ≤ 300) (hp : M 6 4 = (p : Int)) (hp9 : p ≤ 1000) (hn : numN tx len p = none) : CtI l yX4_readNumber cX4_readNumber 4 (some .boolean) 2 42 45 [vR 6, vI k] M P (pI 0 M P) := by
  refine Ct_of (own := RX4) (L := [vR 6, vI k, vX 1, vX 1]) (by decide) rfl rfl (Nat.le_of_ble_eq_true rfl) (fun X Y hl hC hQ => ?_)
  have hf : figN tx len p = none := by
    unfold numN at hn
    cases h1 : figN tx len p with
    | none => rfl
    | some a =>
      rw [h1] at hn
      cases h2 : figN tx len (p + 1) with
      | none => rw [h2] at hn; cases hn
      | some b => rw [h2] at hn; cases hn
  refine G_al0 hC dX4_readNumber_0 ?_
  refine G_callVI hC (c_X4_nextFig0 hGr hT hE hlen hp (by omega) hf) mv_X4_90 (by first | assumption | rfl) (by omega) (by decide) rfl (by decide) dX4_readNumber_1 rfl (Nat.le_of_ble_eq_true rfl) rfl (fun z1 M1 P1 h1 => ?_)
  obtain ⟨rfl, rfl, rfl⟩ := h1
  refine G_is2 hC dX4_readNumber_4 rfl ?_
  refine G_il2 hC dX4_readNumber_5 ?_
  refine G_iconst hC dX4_readNumber_6 ?_
  refine G_icmp_ne (tgt := 12) hC dX4_readNumber_7 (by decide) (by omega) (by omega) (fun c7 => ?_) (fun c7 => ?_)
  · exact absurd rfl c7
  · refine G_iconst hC dX4_readNumber_10 ?_
    exact G_zret hC hQ dX4_readNumber_11 (by omega) ⟨_, rfl, rfl, rfl, rfl⟩
theorem TxR_6 {M : Mem} {tx : Nat → Nat} {k j : Nat} {v : Int} (h : TxR M tx) (hk : k ≠ 1) : TxR (upM M k j v) tx := fun i hi => by rw [upM_ne (fun e => hk e.symm)]; exact h i hi
set_option maxHeartbeats 4000000 in
set_option maxRecDepth 100000 in
theorem c_X4_readNum1 {l : Launch} {tx : Nat → Nat} {len p k v p1 : Nat} {M : Mem} {P : PMem} (hGr : Gr P) (hT : TxR M tx) (hE : M 6 3 = (len : Int)) (hlen : len ≤ 300) (hp : M 6 4 = (p : Int)) (hp9 : p ≤ 1000) (hn : numN tx len p = some (v, p1)) (hk : k < 3) : CtI l yX4_readNumber cX4_readNumber 4 (some .boolean) 2 42 45 [vR 6, vI k] M P (pI 1 (upM (upM M 6 4 p1) 7 k v) P) := by
  refine Ct_of (own := RX4) (L := [vR 6, vI k, vX 1, vX 1]) (by decide) rfl rfl (Nat.le_of_ble_eq_true rfl) (fun X Y hl hC hQ => ?_)
  unfold numN at hn
  cases h1f : figN tx len p with
  | none => rw [h1f] at hn; cases hn
  | some a =>
    rw [h1f] at hn
    have ha9 := figN_le h1f
    cases h2f : figN tx len (p + 1) with
    | none =>
      rw [h2f] at hn
      have e1 : a = v := by cases hn; rfl
      have e2 : p + 1 = p1 := by cases hn; rfl
      refine G_al0 hC dX4_readNumber_0 ?_
      refine G_callVI hC (c_X4_nextFig1 hGr hT hE hlen hp (by omega) h1f) mv_X4_90 (by first | assumption | rfl) (by omega) (by decide) rfl (by decide) dX4_readNumber_1 rfl (Nat.le_of_ble_eq_true rfl) rfl (fun z1 M1 P1 h1 => ?_)
      obtain ⟨rfl, rfl, rfl⟩ := h1
      refine G_is2 hC dX4_readNumber_4 rfl ?_
      refine G_il2 hC dX4_readNumber_5 ?_
      refine G_iconst hC dX4_readNumber_6 ?_
      refine G_icmp_ne (tgt := 12) hC dX4_readNumber_7 (by decide) (by omega) (by omega) (fun c7 => ?_) (fun c7 => ?_)
      · refine G_al0 hC dX4_readNumber_12 ?_
        refine G_callVI hC (c_X4_nextFig0 (p := p + 1) hGr (TxR_6 hT (by decide)) (by rw [upM_nej (by decide)]; exact hE) hlen (by rw [upM_self]; omega) (by omega) h2f) mv_X4_90 (by first | assumption | rfl) (by omega) (by decide) rfl (by decide) dX4_readNumber_13 rfl (Nat.le_of_ble_eq_true rfl) rfl (fun z13 M13 P13 h13 => ?_)
        obtain ⟨rfl, rfl, rfl⟩ := h13
        refine G_is3 hC dX4_readNumber_16 rfl ?_
        refine G_al0 hC dX4_readNumber_17 ?_
        refine G_getR hC fl_X4_9 (by first | assumption | rfl) (by omega) (by first | assumption | exact hGr _ _ _ rfl) dX4_readNumber_18 ?_
        refine G_il1 hC dX4_readNumber_21 ?_
        refine G_il3 hC dX4_readNumber_22 ?_
        refine G_iconst hC dX4_readNumber_23 ?_
        refine G_icmp_ne (tgt := 31) hC dX4_readNumber_24 (by decide) (by omega) (by omega) (fun c24 => ?_) (fun c24 => ?_)
        · exact absurd rfl c24
        · refine G_il2 hC dX4_readNumber_27 ?_
          refine G_goto (tgt := 37) hC dX4_readNumber_28 (by decide) ?_
          refine G_callSV hC (c_putN (z := 3) rfl (by omega) hk) ms_X4_96 (by decide) rfl (by decide) dX4_readNumber_37 rfl (Nat.le_of_ble_eq_true rfl) rfl (fun M37 P37 h37 => ?_)
          obtain ⟨rfl, rfl⟩ := h37
          refine G_iconst hC dX4_readNumber_40 ?_
          exact G_zret hC hQ dX4_readNumber_41 (by omega) ⟨_, rfl, rfl, by rw [show p1 = p + 1 by omega, show v = a by omega]; simp, rfl⟩
      · exact absurd c7 (by omega)
    | some b =>
      rw [h2f] at hn
      have hb9 := figN_le h2f
      have e1 : 10 * a + b = v := by cases hn; rfl
      have e2 : p + 2 = p1 := by cases hn; rfl
      refine G_al0 hC dX4_readNumber_0 ?_
      refine G_callVI hC (c_X4_nextFig1 hGr hT hE hlen hp (by omega) h1f) mv_X4_90 (by first | assumption | rfl) (by omega) (by decide) rfl (by decide) dX4_readNumber_1 rfl (Nat.le_of_ble_eq_true rfl) rfl (fun z1 M1 P1 h1 => ?_)
      obtain ⟨rfl, rfl, rfl⟩ := h1
      refine G_is2 hC dX4_readNumber_4 rfl ?_
      refine G_il2 hC dX4_readNumber_5 ?_
      refine G_iconst hC dX4_readNumber_6 ?_
      refine G_icmp_ne (tgt := 12) hC dX4_readNumber_7 (by decide) (by omega) (by omega) (fun c7 => ?_) (fun c7 => ?_)
      · refine G_al0 hC dX4_readNumber_12 ?_
        refine G_callVI hC (c_X4_nextFig1 (p := p + 1) hGr (TxR_6 hT (by decide)) (by rw [upM_nej (by decide)]; exact hE) hlen (by rw [upM_self]; omega) (by omega) h2f) mv_X4_90 (by first | assumption | rfl) (by omega) (by decide) rfl (by decide) dX4_readNumber_13 rfl (Nat.le_of_ble_eq_true rfl) rfl (fun z13 M13 P13 h13 => ?_)
        obtain ⟨rfl, rfl, rfl⟩ := h13
        refine G_is3 hC dX4_readNumber_16 rfl ?_
        refine G_al0 hC dX4_readNumber_17 ?_
        refine G_getR hC fl_X4_9 (by first | assumption | rfl) (by omega) (by first | assumption | exact hGr _ _ _ rfl) dX4_readNumber_18 ?_
        refine G_il1 hC dX4_readNumber_21 ?_
        refine G_il3 hC dX4_readNumber_22 ?_
        refine G_iconst hC dX4_readNumber_23 ?_
        refine G_icmp_ne (tgt := 31) hC dX4_readNumber_24 (by decide) (by omega) (by omega) (fun c24 => ?_) (fun c24 => ?_)
        · refine G_bipush hC dX4_readNumber_31 (by decide) ?_
          refine G_il2 hC dX4_readNumber_33 ?_
          refine G_imul hC dX4_readNumber_34 ?_
          refine G_il3 hC dX4_readNumber_35 ?_
          refine G_iadd hC dX4_readNumber_36 ?_
          refine G_callSV hC (c_putN (z := 3) rfl (by omega) hk) ms_X4_96 (by decide) rfl (by decide) dX4_readNumber_37 rfl (Nat.le_of_ble_eq_true rfl) rfl (fun M37 P37 h37 => ?_)
          obtain ⟨rfl, rfl⟩ := h37
          refine G_iconst hC dX4_readNumber_40 ?_
          exact G_zret hC hQ dX4_readNumber_41 (by omega) ⟨_, rfl, rfl, by rw [show p1 = p + 2 by omega, show (v : Int) = 10 * a + b by omega]; congr 1; funext x y; simp only [upM]; split <;> (first | omega | rfl), rfl⟩
        · exact absurd c24 (by omega)
      · exact absurd c7 (by omega)
theorem lk_off (c : Int) : Op.lookupswitch.offset [(99, 107), (100, 43), (114, 78), (115, 97)] 127 c = if c = 99 then 107 else if c = 100 then 43 else if c = 114 then 78 else if c = 115 then 97 else 127 := by
  simp only [Op.lookupswitch.offset_cons, Op.lookupswitch.offset_nil]
  simp only [eq_comm (a := (99 : Int)), eq_comm (a := (100 : Int)), eq_comm (a := (114 : Int)), eq_comm (a := (115 : Int))]
set_option maxHeartbeats 4000000 in
set_option maxRecDepth 100000 in
theorem c_tkD {l : Launch} {v : Nat} {c : Int} {M : Mem} {P : PMem} (hGr : Gr P) (hg : 0 ≤ M 2 0 ∧ M 2 0 ≤ 6) (hc : c = 100) (hv : v ≤ 99) (hcr : -1 ≤ c ∧ c ≤ 255) : CtI l yX4_takeNumber cX4_takeNumber 3 (some .boolean) 0 0 45 [vR 6, vI c, vI v] M P (pI (if 1 ≤ v ∧ v ≤ 6 ∧ M 2 0 = 0 then 1 else 0) (upM M 2 1 v) P) := by
  refine Ct_of (own := RX4) (L := [vR 6, vI c, vI v]) (by decide) rfl rfl (Nat.le_of_ble_eq_true rfl) (fun X Y hl hC hQ => ?_)
  refine G_il1 hC dX4_takeNumber_0 ?_
  refine G_look (off := 43) (tgt := 44) hC dX4_takeNumber_1 (by decide) (by omega) (by rw [show (#[(99, 107), (100, 43), (114, 78), (115, 97)] : Array (Int × Int)).toList = [(99, 107), (100, 43), (114, 78), (115, 97)] from rfl, lk_off]; repeat (first | rfl | rw [if_pos (by omega)] | rw [if_neg (by omega)])) (by decide) ?_
  refine G_al0 hC dX4_takeNumber_44 ?_
  refine G_getR hC fl_X4_18 (by first | assumption | rfl) (by omega) (by first | assumption | exact hGr _ _ _ rfl) dX4_takeNumber_45 ?_
  refine G_il2 hC dX4_takeNumber_48 ?_
  refine G_putI hC fl_X4_61 (by first | assumption | rfl) (by omega) dX4_takeNumber_49 ?_
  refine G_il2 hC dX4_takeNumber_52 ?_
  refine G_iconst hC dX4_takeNumber_53 ?_
  refine G_icmp_lt (tgt := 77) hC dX4_takeNumber_54 (by decide) (by omega) (by omega) (fun c54 => ?_) (fun c54 => ?_)
  · refine G_iconst hC dX4_takeNumber_77 ?_
    exact G_zret hC hQ dX4_takeNumber_78 (by omega) ⟨_, rfl, by first | (rw [if_pos ⟨by omega, by omega, by omega⟩]; done) | (rw [if_neg (fun q => by omega)]; done), rfl, rfl⟩
  · refine G_il2 hC dX4_takeNumber_57 ?_
    refine G_bipush hC dX4_takeNumber_58 (by decide) ?_
    refine G_icmp_gt (tgt := 77) hC dX4_takeNumber_60 (by decide) (by omega) (by omega) (fun c60 => ?_) (fun c60 => ?_)
    · refine G_iconst hC dX4_takeNumber_77 ?_
      exact G_zret hC hQ dX4_takeNumber_78 (by omega) ⟨_, rfl, by first | (rw [if_pos ⟨by omega, by omega, by omega⟩]; done) | (rw [if_neg (fun q => by omega)]; done), rfl, rfl⟩
    · refine G_al0 hC dX4_takeNumber_63 ?_
      refine G_getR hC fl_X4_18 (by first | assumption | rfl) (by omega) (by first | assumption | exact hGr _ _ _ rfl) dX4_takeNumber_64 ?_
      refine G_getI hC fl_X4_64 (by first | assumption | rfl) (by omega) dX4_takeNumber_67 ?_
      rw [upM_nej (by decide)]
      refine G_if_ne (tgt := 77) hC dX4_takeNumber_70 (by decide) (by omega) (fun c70 => ?_) (fun c70 => ?_)
      · refine G_iconst hC dX4_takeNumber_77 ?_
        exact G_zret hC hQ dX4_takeNumber_78 (by omega) ⟨_, rfl, by first | (rw [if_pos ⟨by omega, by omega, by omega⟩]; done) | (rw [if_neg (fun q => by omega)]; done), rfl, rfl⟩
      · refine G_iconst hC dX4_takeNumber_73 ?_
        refine G_goto (tgt := 78) hC dX4_takeNumber_74 (by decide) ?_
        exact G_zret hC hQ dX4_takeNumber_78 (by omega) ⟨_, rfl, by first | (rw [if_pos ⟨by omega, by omega, by omega⟩]; done) | (rw [if_neg (fun q => by omega)]; done), rfl, rfl⟩
set_option maxHeartbeats 4000000 in
set_option maxRecDepth 100000 in
theorem c_tkR {l : Launch} {v : Nat} {c : Int} {M : Mem} {P : PMem} (hGr : Gr P) (hc : c = 114) (hv : v ≤ 99) (hcr : -1 ≤ c ∧ c ≤ 255) : CtI l yX4_takeNumber cX4_takeNumber 3 (some .boolean) 0 0 45 [vR 6, vI c, vI v] M P (pI (if v ≤ 1 then 1 else 0) (upM M 2 2 v) P) := by
  refine Ct_of (own := RX4) (L := [vR 6, vI c, vI v]) (by decide) rfl rfl (Nat.le_of_ble_eq_true rfl) (fun X Y hl hC hQ => ?_)
  refine G_il1 hC dX4_takeNumber_0 ?_
  refine G_look (off := 78) (tgt := 79) hC dX4_takeNumber_1 (by decide) (by omega) (by rw [show (#[(99, 107), (100, 43), (114, 78), (115, 97)] : Array (Int × Int)).toList = [(99, 107), (100, 43), (114, 78), (115, 97)] from rfl, lk_off]; repeat (first | rfl | rw [if_pos (by omega)] | rw [if_neg (by omega)])) (by decide) ?_
  refine G_al0 hC dX4_takeNumber_79 ?_
  refine G_getR hC fl_X4_18 (by first | assumption | rfl) (by omega) (by first | assumption | exact hGr _ _ _ rfl) dX4_takeNumber_80 ?_
  refine G_il2 hC dX4_takeNumber_83 ?_
  refine G_putI hC fl_X4_67 (by first | assumption | rfl) (by omega) dX4_takeNumber_84 ?_
  refine G_il2 hC dX4_takeNumber_87 ?_
  refine G_iconst hC dX4_takeNumber_88 ?_
  refine G_icmp_gt (tgt := 96) hC dX4_takeNumber_89 (by decide) (by omega) (by omega) (fun c89 => ?_) (fun c89 => ?_)
  · refine G_iconst hC dX4_takeNumber_96 ?_
    exact G_zret hC hQ dX4_takeNumber_97 (by omega) ⟨_, rfl, by first | (rw [if_pos (by omega)]; done) | (rw [if_neg (by omega)]; done), rfl, rfl⟩
  · refine G_iconst hC dX4_takeNumber_92 ?_
    refine G_goto (tgt := 97) hC dX4_takeNumber_93 (by decide) ?_
    exact G_zret hC hQ dX4_takeNumber_97 (by omega) ⟨_, rfl, by first | (rw [if_pos (by omega)]; done) | (rw [if_neg (by omega)]; done), rfl, rfl⟩
set_option maxHeartbeats 4000000 in
set_option maxRecDepth 100000 in
theorem c_tkS {l : Launch} {v : Nat} {c : Int} {M : Mem} {P : PMem} (hGr : Gr P) (hc : c = 115) (hv : v ≤ 99) (hcr : -1 ≤ c ∧ c ≤ 255) : CtI l yX4_takeNumber cX4_takeNumber 3 (some .boolean) 0 0 45 [vR 6, vI c, vI v] M P (pI 1 (upM M 2 3 v) P) := by
  refine Ct_of (own := RX4) (L := [vR 6, vI c, vI v]) (by decide) rfl rfl (Nat.le_of_ble_eq_true rfl) (fun X Y hl hC hQ => ?_)
  refine G_il1 hC dX4_takeNumber_0 ?_
  refine G_look (off := 97) (tgt := 98) hC dX4_takeNumber_1 (by decide) (by omega) (by rw [show (#[(99, 107), (100, 43), (114, 78), (115, 97)] : Array (Int × Int)).toList = [(99, 107), (100, 43), (114, 78), (115, 97)] from rfl, lk_off]; repeat (first | rfl | rw [if_pos (by omega)] | rw [if_neg (by omega)])) (by decide) ?_
  refine G_al0 hC dX4_takeNumber_98 ?_
  refine G_getR hC fl_X4_18 (by first | assumption | rfl) (by omega) (by first | assumption | exact hGr _ _ _ rfl) dX4_takeNumber_99 ?_
  refine G_il2 hC dX4_takeNumber_102 ?_
  refine G_putI hC fl_X4_70 (by first | assumption | rfl) (by omega) dX4_takeNumber_103 ?_
  refine G_iconst hC dX4_takeNumber_106 ?_
  exact G_zret hC hQ dX4_takeNumber_107 (by omega) ⟨_, rfl, rfl, rfl, rfl⟩
set_option maxHeartbeats 4000000 in
set_option maxRecDepth 100000 in
theorem c_tkC {l : Launch} {v : Nat} {c : Int} {M : Mem} {P : PMem} (hGr : Gr P) (hc : c = 99) (hv : v ≤ 99) (hcr : -1 ≤ c ∧ c ≤ 255) : CtI l yX4_takeNumber cX4_takeNumber 3 (some .boolean) 0 0 45 [vR 6, vI c, vI v] M P (pI (if v ≤ 9 then 1 else 0) (upM M 2 4 v) P) := by
  refine Ct_of (own := RX4) (L := [vR 6, vI c, vI v]) (by decide) rfl rfl (Nat.le_of_ble_eq_true rfl) (fun X Y hl hC hQ => ?_)
  refine G_il1 hC dX4_takeNumber_0 ?_
  refine G_look (off := 107) (tgt := 108) hC dX4_takeNumber_1 (by decide) (by omega) (by rw [show (#[(99, 107), (100, 43), (114, 78), (115, 97)] : Array (Int × Int)).toList = [(99, 107), (100, 43), (114, 78), (115, 97)] from rfl, lk_off]; repeat (first | rfl | rw [if_pos (by omega)] | rw [if_neg (by omega)])) (by decide) ?_
  refine G_al0 hC dX4_takeNumber_108 ?_
  refine G_getR hC fl_X4_18 (by first | assumption | rfl) (by omega) (by first | assumption | exact hGr _ _ _ rfl) dX4_takeNumber_109 ?_
  refine G_il2 hC dX4_takeNumber_112 ?_
  refine G_putI hC fl_X4_73 (by first | assumption | rfl) (by omega) dX4_takeNumber_113 ?_
  refine G_il2 hC dX4_takeNumber_116 ?_
  refine G_bipush hC dX4_takeNumber_117 (by decide) ?_
  refine G_icmp_gt (tgt := 126) hC dX4_takeNumber_119 (by decide) (by omega) (by omega) (fun c119 => ?_) (fun c119 => ?_)
  · refine G_iconst hC dX4_takeNumber_126 ?_
    exact G_zret hC hQ dX4_takeNumber_127 (by omega) ⟨_, rfl, by first | (rw [if_pos (by omega)]; done) | (rw [if_neg (by omega)]; done), rfl, rfl⟩
  · refine G_iconst hC dX4_takeNumber_122 ?_
    refine G_goto (tgt := 127) hC dX4_takeNumber_123 (by decide) ?_
    exact G_zret hC hQ dX4_takeNumber_127 (by omega) ⟨_, rfl, by first | (rw [if_pos (by omega)]; done) | (rw [if_neg (by omega)]; done), rfl, rfl⟩
set_option maxHeartbeats 4000000 in
set_option maxRecDepth 100000 in
theorem c_tkO {l : Launch} {v : Nat} {c : Int} {M : Mem} {P : PMem} (hGr : Gr P) (hc : c ≠ 99 ∧ c ≠ 100 ∧ c ≠ 114 ∧ c ≠ 115) (hv : v ≤ 99) (hcr : -1 ≤ c ∧ c ≤ 255) : CtI l yX4_takeNumber cX4_takeNumber 3 (some .boolean) 0 0 45 [vR 6, vI c, vI v] M P (pI 0 (M) P) := by
  refine Ct_of (own := RX4) (L := [vR 6, vI c, vI v]) (by decide) rfl rfl (Nat.le_of_ble_eq_true rfl) (fun X Y hl hC hQ => ?_)
  refine G_il1 hC dX4_takeNumber_0 ?_
  refine G_look (off := 127) (tgt := 128) hC dX4_takeNumber_1 (by decide) (by omega) (by rw [show (#[(99, 107), (100, 43), (114, 78), (115, 97)] : Array (Int × Int)).toList = [(99, 107), (100, 43), (114, 78), (115, 97)] from rfl, lk_off]; repeat (first | rfl | rw [if_pos (by omega)] | rw [if_neg (by omega)])) (by decide) ?_
  refine G_iconst hC dX4_takeNumber_128 ?_
  exact G_zret hC hQ dX4_takeNumber_129 (by omega) ⟨_, rfl, rfl, rfl, rfl⟩
theorem sFrom_neg {f : Nat → Nat} {d : Nat} : ∀ n s, sFrom f (d : Int) n s < 0 ↔ ∀ i, s ≤ i → i < s + n → f i ≠ d
  | 0, s => by unfold sFrom; exact ⟨fun _ i h1 h2 => by omega, fun _ => by omega⟩
  | n + 1, s => by
    unfold sFrom
    have ih := sFrom_neg (f := f) (d := d) n (s + 1)
    split
    · rename_i h
      constructor
      · intro q; omega
      · intro q; exact absurd (by omega) (q s (by omega) (by omega))
    · rename_i h
      rw [ih]
      constructor
      · intro q i h1 h2
        rcases Nat.eq_or_lt_of_le h1 with e | e
        · subst e; omega
        · exact q i (by omega) (by omega)
      · intro q i h1 h2; exact q i (by omega) (by omega)
theorem xor0 {a b : Nat} : a ^^^ b = 0 ↔ a = b := by
  constructor
  · intro h
    have : (a ^^^ b) ^^^ b = 0 ^^^ b := by rw [h]
    rwa [Nat.xor_assoc, Nat.xor_self, Nat.xor_zero, Nat.zero_xor] at this
  · intro h; rw [h, Nat.xor_self]
theorem m_sub {w n : Nat} (hw : w < 128) (hn : n ≤ 6) : bAnd w (bXor (((2 ^ n : Nat) : Int) - 1) (-1)) = ((w ^^^ (w % 2 ^ n) : Nat) : Int) ∧ ((w ^^^ (w % 2 ^ n)) = 0 ↔ w < 2 ^ n) ∧ w ^^^ (w % 2 ^ n) < 128 := by
  have h1 : 2 ^ n ≤ 2 ^ 6 := Nat.pow_le_pow_right (by omega) hn
  have h2 := Nat.two_pow_pos n
  have h3 : w % 2 ^ n ≤ w := Nat.mod_le _ _
  refine ⟨?_, ?_, Nat.xor_lt_two_pow (n := 7) (by omega) (by omega)⟩
  · rw [show ((2 ^ n : Nat) : Int) - 1 = ((2 ^ n - 1 : Nat) : Int) by omega, bAndN_n (by omega) (by omega), Nat.and_two_pow_sub_one_eq_mod]
  · rw [xor0]
    constructor
    · intro h; rw [h]; exact Nat.mod_lt _ h2
    · intro h; exact (Nat.mod_eq_of_lt h).symm
noncomputable def gkI (S : TS) (k d w : Nat) : Int := by classical exact if gOK S k d w then 1 else 0
theorem gkI_1 {S : TS} {k d w : Nat} (h : gOK S k d w) : gkI S k d w = 1 := by unfold gkI; rw [if_pos h]
theorem gkI_0 {S : TS} {k d w : Nat} (h : ¬ gOK S k d w) : gkI S k d w = 0 := by unfold gkI; rw [if_neg h]
def tgQ (M : Mem) (P : PMem) (S : TS) (k d w : Nat) : Int → Mem → PMem → Prop := fun r M' P' => P = P' ∧ ((r = 0 ∧ ¬ gOK S k d w ∧ M' = M) ∨ (r = 1 ∧ gOK S k d w ∧ M' = upM (upM (agM M 2 (qn S) k w 6) 2 5 (enc (ud (qf S) (qn S) (if d = 9 then 7 else d)))) 2 0 (qn S + 1)))
set_option maxHeartbeats 4000000 in
set_option maxRecDepth 100000 in
theorem c_X4_takeGuest {l : Launch} {S : TS} {k d w0 : Nat} {M : Mem} {P : PMem} (hGr : Gr P) (hS : ToR M S) (hk : k ≤ 99) (hd : d ≤ 99) (hw : w0 ≤ 99) : CtI l yX4_takeGuest cX4_takeGuest 6 (some .boolean) 3 69 45 [vR 6, vI k, vI d, vI w0] M P (tgQ M P S k d w0) := by
  refine Ct_of (own := RX4) (L := [vR 6, vI k, vI d, vI w0, vX 1, vX 1]) (by decide) rfl rfl (Nat.le_of_ble_eq_true rfl) (fun X Y hl hC hQ => ?_)
  obtain ⟨a0, a1, a2, a3, a4, a5, b1, b2, b3, b4, b5, b6, b7, b8, b9, b10, b11⟩ := id hS
  have hlo : lo8 (qf S) := fun i => by rcases b7 i with q | q <;> omega
  obtain ⟨m1, m2, m3⟩ := m_sub (w := w0) (n := qd S) (by omega) b3
  have hsr := sFrom_r (qf S) d 6 0
  have hsn := sFrom_neg (f := qf S) (d := d) 6 0
  have fin : ∀ (v4 v5 : Int), (v4 = 1 ∧ (d = 9 ∨ (d < qd S ∧ ∀ i, i < 6 → qf S i ≠ d)) ∨ v4 = 0 ∧ ¬ (d = 9 ∨ (d < qd S ∧ ∀ i, i < 6 → qf S i ≠ d))) → (v5 = 1 ∧ w0 < 2 ^ qd S ∨ v5 = 0 ∧ ¬ w0 < 2 ^ qd S) → G X Y 59 [vR 6, vI k, vI d, vI w0, vI v4, vI v5] [] M P := by
    intro v4 v5 h4 h5
    refine G_al0 hC dX4_takeGuest_59 ?_
    refine G_getR hC fl_X4_18 (by first | assumption | rfl) (by omega) (by first | assumption | exact hGr _ _ _ rfl) dX4_takeGuest_60 ?_
    refine G_getI hC fl_X4_64 (by first | assumption | rfl) (by omega) dX4_takeGuest_63 ?_
    refine G_bipush hC dX4_takeGuest_66 (by decide) ?_
    refine G_icmp_ge (tgt := 86) hC dX4_takeGuest_68 (by decide) (by omega) (by omega) (fun c68 => ?_) (fun c68 => ?_)
    · refine G_iconst hC dX4_takeGuest_86 ?_
      exact G_zret hC hQ dX4_takeGuest_87 (by omega) ⟨_, rfl, rfl, Or.inl ⟨rfl, fun q => by
  obtain ⟨q1, q2, q3, q4⟩ := q
  rcases h4 with ⟨z1, z2⟩ | ⟨z1, z2⟩
  · rcases h5 with ⟨y1, y2⟩ | ⟨y1, y2⟩
    · omega
    · exact y2 q4
  · exact z2 q3, rfl⟩⟩
    · refine G_il1 hC dX4_takeGuest_71 ?_
      refine G_iconst hC dX4_takeGuest_72 ?_
      refine G_icmp_gt (tgt := 86) hC dX4_takeGuest_73 (by decide) (by omega) (by omega) (fun c73 => ?_) (fun c73 => ?_)
      · refine G_iconst hC dX4_takeGuest_86 ?_
        exact G_zret hC hQ dX4_takeGuest_87 (by omega) ⟨_, rfl, rfl, Or.inl ⟨rfl, fun q => by
  obtain ⟨q1, q2, q3, q4⟩ := q
  rcases h4 with ⟨z1, z2⟩ | ⟨z1, z2⟩
  · rcases h5 with ⟨y1, y2⟩ | ⟨y1, y2⟩
    · omega
    · exact y2 q4
  · exact z2 q3, rfl⟩⟩
      · refine G_il4 hC dX4_takeGuest_76 ?_
        refine G_if_eq (tgt := 86) hC dX4_takeGuest_78 (by decide) (by omega) (fun c78 => ?_) (fun c78 => ?_)
        · refine G_iconst hC dX4_takeGuest_86 ?_
          exact G_zret hC hQ dX4_takeGuest_87 (by omega) ⟨_, rfl, rfl, Or.inl ⟨rfl, fun q => by
  obtain ⟨q1, q2, q3, q4⟩ := q
  rcases h4 with ⟨z1, z2⟩ | ⟨z1, z2⟩
  · rcases h5 with ⟨y1, y2⟩ | ⟨y1, y2⟩
    · omega
    · exact y2 q4
  · exact z2 q3, rfl⟩⟩
        · refine G_il5 hC dX4_takeGuest_81 ?_
          refine G_if_ne (tgt := 88) hC dX4_takeGuest_83 (by decide) (by omega) (fun c83 => ?_) (fun c83 => ?_)
          · refine G_al0 hC dX4_takeGuest_88 ?_
            refine G_getR hC fl_X4_18 (by first | assumption | rfl) (by omega) (by first | assumption | exact hGr _ _ _ rfl) dX4_takeGuest_89 ?_
            refine G_il1 hC dX4_takeGuest_92 ?_
            refine G_il2 hC dX4_takeGuest_93 ?_
            refine G_bipush hC dX4_takeGuest_94 (by decide) ?_
            refine G_icmp_ne (tgt := 104) hC dX4_takeGuest_96 (by decide) (by omega) (by omega) (fun c96 => ?_) (fun c96 => ?_)
            · refine G_il2 hC dX4_takeGuest_104 ?_
              refine G_il3 hC dX4_takeGuest_105 ?_
              first | rw [show (7 : Int) = ((if d = 9 then 7 else d : Nat) : Int) by rw [if_pos (by omega)]; rfl] | rw [show ((d : Nat) : Int) = ((if d = 9 then 7 else d : Nat) : Int) by rw [if_neg (by omega)]]
              refine G_callVV hC (c_X7_addGuest (g := qn S) (dish := if d = 9 then 7 else d) hGr isT2 a0 (by omega) a5 hlo (by rcases h4 with ⟨z1, z2⟩ | ⟨z1, z2⟩ <;> (split <;> omega))) mv_X4_86 (by first | assumption | rfl) (by omega) (by decide) rfl (by decide) dX4_takeGuest_106 rfl (Nat.le_of_ble_eq_true rfl) rfl (fun M106 P106 h106 => ?_)
              obtain ⟨rfl, rfl⟩ := h106
              refine G_iconst hC dX4_takeGuest_109 ?_
              exact G_zret hC hQ dX4_takeGuest_110 (by omega) ⟨_, rfl, rfl, Or.inr ⟨rfl, ⟨by omega, by omega, by
  rcases h4 with ⟨z1, z2⟩ | ⟨z1, z2⟩
  · exact z2
  · omega, by
  rcases h5 with ⟨y1, y2⟩ | ⟨y1, y2⟩
  · exact y2
  · omega⟩, by first | (rw [if_pos (by omega)]; done) | (rw [if_neg (by omega)]; done)⟩⟩
            · refine G_bipush hC dX4_takeGuest_99 (by decide) ?_
              refine G_goto (tgt := 105) hC dX4_takeGuest_101 (by decide) ?_
              refine G_il3 hC dX4_takeGuest_105 ?_
              first | rw [show (7 : Int) = ((if d = 9 then 7 else d : Nat) : Int) by rw [if_pos (by omega)]; rfl] | rw [show ((d : Nat) : Int) = ((if d = 9 then 7 else d : Nat) : Int) by rw [if_neg (by omega)]]
              refine G_callVV hC (c_X7_addGuest (g := qn S) (dish := if d = 9 then 7 else d) hGr isT2 a0 (by omega) a5 hlo (by rcases h4 with ⟨z1, z2⟩ | ⟨z1, z2⟩ <;> (split <;> omega))) mv_X4_86 (by first | assumption | rfl) (by omega) (by decide) rfl (by decide) dX4_takeGuest_106 rfl (Nat.le_of_ble_eq_true rfl) rfl (fun M106 P106 h106 => ?_)
              obtain ⟨rfl, rfl⟩ := h106
              refine G_iconst hC dX4_takeGuest_109 ?_
              exact G_zret hC hQ dX4_takeGuest_110 (by omega) ⟨_, rfl, rfl, Or.inr ⟨rfl, ⟨by omega, by omega, by
  rcases h4 with ⟨z1, z2⟩ | ⟨z1, z2⟩
  · exact z2
  · omega, by
  rcases h5 with ⟨y1, y2⟩ | ⟨y1, y2⟩
  · exact y2
  · omega⟩, by first | (rw [if_pos (by omega)]; done) | (rw [if_neg (by omega)]; done)⟩⟩
          · refine G_iconst hC dX4_takeGuest_86 ?_
            exact G_zret hC hQ dX4_takeGuest_87 (by omega) ⟨_, rfl, rfl, Or.inl ⟨rfl, fun q => by
  obtain ⟨q1, q2, q3, q4⟩ := q
  rcases h4 with ⟨z1, z2⟩ | ⟨z1, z2⟩
  · rcases h5 with ⟨y1, y2⟩ | ⟨y1, y2⟩
    · omega
    · exact y2 q4
  · exact z2 q3, rfl⟩⟩
  have mid : ∀ (v4 : Int) (x5 : AV), (v4 = 1 ∧ (d = 9 ∨ (d < qd S ∧ ∀ i, i < 6 → qf S i ≠ d)) ∨ v4 = 0 ∧ ¬ (d = 9 ∨ (d < qd S ∧ ∀ i, i < 6 → qf S i ≠ d))) → G X Y 38 [vR 6, vI k, vI d, vI w0, vI v4, x5] [] M P := by
    intro v4 x5 h4
    refine G_il3 hC dX4_takeGuest_38 ?_
    refine G_al0 hC dX4_takeGuest_39 ?_
    refine G_getR hC fl_X4_18 (by first | assumption | rfl) (by omega) (by first | assumption | exact hGr _ _ _ rfl) dX4_takeGuest_40 ?_
    refine G_callVI hC (c_X7_allDishes hGr isT2 a1 b3) mv_X4_83 (by first | assumption | rfl) (by omega) (by decide) rfl (by decide) dX4_takeGuest_43 rfl (Nat.le_of_ble_eq_true rfl) rfl (fun z43 M43 P43 h43 => ?_)
    obtain ⟨rfl, rfl, rfl⟩ := h43
    refine G_iconst hC dX4_takeGuest_46 ?_
    refine G_ixor hC dX4_takeGuest_47 ?_
    refine G_iand hC dX4_takeGuest_48 ?_
    rw [m1]
    refine G_if_ne (tgt := 56) hC dX4_takeGuest_49 (by decide) (by omega) (fun c49 => ?_) (fun c49 => ?_)
    · refine G_iconst hC dX4_takeGuest_56 ?_
      refine G_is5 hC dX4_takeGuest_57 rfl ?_
      exact fin _ _ h4 (by first | exact Or.inl ⟨rfl, by omega⟩ | exact Or.inr ⟨rfl, by omega⟩)
    · refine G_iconst hC dX4_takeGuest_52 ?_
      refine G_goto (tgt := 57) hC dX4_takeGuest_53 (by decide) ?_
      refine G_is5 hC dX4_takeGuest_57 rfl ?_
      exact fin _ _ h4 (by first | exact Or.inl ⟨rfl, by omega⟩ | exact Or.inr ⟨rfl, by omega⟩)
  refine G_il2 hC dX4_takeGuest_0 ?_
  refine G_bipush hC dX4_takeGuest_1 (by decide) ?_
  refine G_icmp_eq (tgt := 31) hC dX4_takeGuest_3 (by decide) (by omega) (by omega) (fun c3 => ?_) (fun c3 => ?_)
  · refine G_iconst hC dX4_takeGuest_31 ?_
    refine G_goto (tgt := 36) hC dX4_takeGuest_32 (by decide) ?_
    refine G_is4 hC dX4_takeGuest_36 rfl ?_
    exact mid _ _ (Or.inl ⟨rfl, Or.inl (by omega)⟩)
  · refine G_il2 hC dX4_takeGuest_6 ?_
    refine G_al0 hC dX4_takeGuest_7 ?_
    refine G_getR hC fl_X4_18 (by first | assumption | rfl) (by omega) (by first | assumption | exact hGr _ _ _ rfl) dX4_takeGuest_8 ?_
    refine G_getI hC fl_X4_61 (by first | assumption | rfl) (by omega) dX4_takeGuest_11 ?_
    refine G_icmp_ge (tgt := 35) hC dX4_takeGuest_14 (by decide) (by omega) (by omega) (fun c14 => ?_) (fun c14 => ?_)
    · refine G_iconst hC dX4_takeGuest_35 ?_
      refine G_is4 hC dX4_takeGuest_36 rfl ?_
      exact mid _ _ (Or.inr ⟨rfl, fun q => by rcases q with q | ⟨q, -⟩ <;> omega⟩)
    · refine G_al0 hC dX4_takeGuest_17 ?_
      refine G_getR hC fl_X4_18 (by first | assumption | rfl) (by omega) (by first | assumption | exact hGr _ _ _ rfl) dX4_takeGuest_18 ?_
      refine G_getI hC fl_X4_76 (by first | assumption | rfl) (by omega) dX4_takeGuest_21 ?_
      rw [a5]
      refine G_il2 hC dX4_takeGuest_24 ?_
      refine G_callSI hC (c_X9_seatOf hlo (by omega)) ms_X4_79 (by decide) rfl (by decide) dX4_takeGuest_25 rfl (Nat.le_of_ble_eq_true rfl) rfl (fun z25 M25 P25 h25 => ?_)
      obtain ⟨rfl, rfl, rfl⟩ := h25
      refine G_if_ge (tgt := 35) hC dX4_takeGuest_28 (by decide) (by omega) (fun c28 => ?_) (fun c28 => ?_)
      · refine G_iconst hC dX4_takeGuest_35 ?_
        refine G_is4 hC dX4_takeGuest_36 rfl ?_
        exact mid _ _ (Or.inr ⟨rfl, fun q => by
          rcases q with q | ⟨q1, q2⟩
          · omega
          · have := hsn.mpr (fun i _ h => q2 i (by omega)); omega⟩)
      · refine G_iconst hC dX4_takeGuest_31 ?_
        refine G_goto (tgt := 36) hC dX4_takeGuest_32 (by decide) ?_
        refine G_is4 hC dX4_takeGuest_36 rfl ?_
        exact mid _ _ (Or.inl ⟨rfl, Or.inr ⟨by omega, fun i h => hsn.mp (by omega) i (by omega) (by omega)⟩⟩)
