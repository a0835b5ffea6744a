/-! what an object of the class holds -/
theorem encK_tb {h : Nat → Nat} (hh : lo64 h) : ∀ k j, (encK h k).testBit j = (decide (j < 6 * k) && (h (j / 6)).testBit (j % 6))
  | 0, j => by simp [encK]
  | k + 1, j => by
    unfold encK
    rw [Nat.add_comm, Nat.testBit_two_pow_mul_add _ (encK_lt hh k)]
    by_cases q : j < 6 * k
    · rw [if_pos q, encK_tb hh k j]
      have q2 : j < 6 * (k + 1) := by omega
      simp [q, q2]
    · rw [if_neg q]
      by_cases q2 : j < 6 * (k + 1)
      · rw [show j / 6 = k by omega, show j % 6 = j - 6 * k by omega]
        simp [q2]
      · have : (h k).testBit (j - 6 * k) = false := Nat.testBit_lt_two_pow (Nat.lt_of_lt_of_le (hh k) (by
          have : 2 ^ 6 ≤ 2 ^ (j - 6 * k) := Nat.pow_le_pow_right (by omega) (by omega)
          omega))
        rw [this]
        simp [q2]
theorem encH_or {h h' : Nat → Nat} (hh : lo64 h) (hh' : lo64 h') : encH h ||| encH h' = encH (fun g => h g ||| h' g) := by
  have h3 : lo64 (fun g => h g ||| h' g) := fun i => Nat.or_lt_two_pow (n := 6) (hh i) (hh' i)
  apply Nat.eq_of_testBit_eq
  intro j
  unfold encH
  rw [Nat.testBit_or, encK_tb hh, encK_tb hh', encK_tb h3, Nat.testBit_or]
  cases decide (j < 6 * 6) <;> simp
abbrev MO : Type := (Nat → Nat) × (Nat → Nat) × Nat
abbrev AS : Type := ((Nat → Nat) × Nat) × (TB × (Nat → Nat) × Nat × Nat × Nat × (Nat → Nat)) × MO × List MO × List MO
abbrev sTx (S : AS) : Nat → Nat := S.1.1
abbrev sLen (S : AS) : Nat := S.1.2
abbrev sT (S : AS) : TB := S.2.1.1
abbrev sW (S : AS) : Nat → Nat := S.2.1.2.1
abbrev sNd (S : AS) : Nat := S.2.1.2.2.1
abbrev sSv (S : AS) : Nat := S.2.1.2.2.2.1
abbrev sCo (S : AS) : Nat := S.2.1.2.2.2.2.1
abbrev sF0 (S : AS) : Nat → Nat := S.2.1.2.2.2.2.2
abbrev sNow (S : AS) : MO := S.2.2.1
abbrev sUn (S : AS) : List MO := S.2.2.2.1
abbrev sKe (S : AS) : List MO := S.2.2.2.2
def mOK (c n : Nat) (f0 : Nat → Nat) (m : MO) : Prop := lieOK m.1 ∧ AR n f0 m.1 ∧ lo64 m.2.1 ∧ m.2.2 ≤ 5 * c
theorem mOK.mono {c c' n : Nat} {f0 : Nat → Nat} {m : MO} (h : mOK c n f0 m) (hc : c ≤ c') : mOK c' n f0 m := ⟨h.1, h.2.1, h.2.2.1, by have := h.2.2.2; omega⟩
def SOK (c : Nat) (S : AS) : Prop := sLen S ≤ 300 ∧ (1 ≤ sNd S ∧ sNd S ≤ 6 ∧ sSv S ≤ 99 ∧ sCo S ≤ 9 ∧ 2 ≤ tn (sT S) ∧ tn (sT S) ≤ 6 ∧ tr (sT S) ≤ 1) ∧ ((∀ i, sF0 S i < 6 ∨ sF0 S i = 7) ∧ (∀ i, tn (sT S) ≤ i → sF0 S i = 7) ∧ (∀ i, sF0 S i ≠ 7 → sF0 S i < sNd S) ∧ (∀ i j, sF0 S i ≠ 7 → sF0 S i = sF0 S j → i = j)) ∧ (∀ g, g < tn (sT S) → sW S g < 2 ^ sNd S) ∧ mOK c (tn (sT S)) (sF0 S) (sNow S) ∧ (∀ m ∈ sUn S, mOK c (tn (sT S)) (sF0 S) m) ∧ (∀ m ∈ sKe S, mOK c (tn (sT S)) (sF0 S) m) ∧ (sUn S).length ≤ 8 ∧ (sKe S).length ≤ 2
theorem SOK.mono {c c' : Nat} {S : AS} (h : SOK c S) (hc : c ≤ c') : SOK c' S := by
  obtain ⟨h1, h2, h3, h4, h5, h6, h7, h8⟩ := h
  exact ⟨h1, h2, h3, h4, h5.mono hc, fun m hm => (h6 m hm).mono hc, fun m hm => (h7 m hm).mono hc, h8⟩
def PW (P : PMem) : Prop := Gr P ∧ ∃ wa wb, isW wa wb ∧ P 21 2 = some wa ∧ P 21 3 = some wb
def pA (M : Mem) (S : AS) : Prop := TxR M (sTx S) ∧ M 0 1 = (sLen S : Int) ∧ ToB M
def pT (M : Mem) (S : AS) : Prop := TabW M 8 (sW S) ∧ M 8 1 = (sNd S : Int) ∧ M 8 3 = (sSv S : Int) ∧ M 8 4 = (sCo S : Int) ∧ M 8 5 = (enc (sF0 S) : Int)
def StR (M : Mem) (m : Nat) (ms : List MO) : Prop := M m 0 = (ms.length : Int) ∧ ∀ k (x : MO), ms[k]? = some x → M (m + 1) k = (enc x.1 : Int) ∧ M (m + 2) k = (encH x.2.1 : Int) ∧ M (m + 3) k = (x.2.2 : Int)
def pF (M : Mem) (S : AS) : Prop := (M 36 0 = (enc (sNow S).1 : Int) ∧ M 36 1 = (encH (sNow S).2.1 : Int) ∧ M 36 2 = ((sNow S).2.2 : Int)) ∧ (M 37 1 = 8 ∧ M 41 1 = 2) ∧ StR M 37 (sUn S) ∧ StR M 41 (sKe S)
def SrI (M : Mem) (T : TB) (N : Nat) (lq : Nat → Nat) : Prop := M 17 1 = 1023 ∨ ∃ l0 m, l0 < N ∧ M 17 1 = (l0 : Int) ∧ SeB M 17 18 N lq (bXn T m (st0 (lq l0))).1 (bXn T m (st0 (lq l0))).2
def hoR (T : TB) (W : Nat → Nat) (q : Nat) (a b : Int) : Prop := ∃ (hv : Nat) (ov : Nat → Nat), isPR T q (encH (wnt T W)) hv ∧ (∀ g, g < tn T → isPR (holdT T g) q hv (ov g)) ∧ a = (hoF (mnF hv ov) (tn T)).1 ∧ b = (hoF (mnF hv ov) (tn T)).2
def seR (T : TB) (W : Nat → Nat) (N : Nat) (lq : Nat → Nat) (q : Nat) (r : Int) : Prop := ∃ (r0 least : Int), isRS T W q 1000000 r0 ∧ bsR T W q (prI (tn T) (tn T) 0) (if r0 = -4 ∧ crI T W N lq = 1 then (1000000 : Int) else r0, -4) (least, r)
def WhI (M : Mem) (T : TB) (W : Nat → Nat) (N : Nat) (lq : Nat → Nat) : Prop := (M 25 2 = 1023 ∨ ∃ l0, l0 < N ∧ M 25 2 = (l0 : Int) ∧ hoR T W (lq l0) (M 25 0) (M 25 1)) ∧ (M 25 4 = 1023 ∨ ∃ l0, l0 < N ∧ M 25 4 = (l0 : Int) ∧ seR T W N lq (lq l0) (M 25 3))
def LyS (M : Mem) (S : AS) (N : Nat) (lq : Nat → Nat) : Prop := SI M 15 8 4320 (sT S) N lq ∧ LQ (tn (sT S)) (sF0 S) N lq ∧ SrI M (sT S) N lq ∧ WhI M (sT S) (sW S) N lq
def CIv (c : Nat) (M : Mem) (P : PMem) (S : AS) : Prop := PW P ∧ SOK c S ∧ pA M S ∧ pT M S ∧ pF M S ∧ ∃ N lq, LyS M S N lq
theorem CIv.mono {c c' : Nat} {M : Mem} {P : PMem} {S : AS} (h : CIv c M P S) (hc : c ≤ c') : CIv c' M P S := ⟨h.1, h.2.1.mono hc, h.2.2⟩
def clsX : Nat → Prop := fun a => a < 45
def PX (P P' : PMem) : Prop := ∀ k j, 45 ≤ k → P' k j = P k j
def cR (c : Nat) (M : Mem) (P : PMem) (S' : AS) (r0 : Int) : Int → Mem → PMem → Prop := fun r M' P' => r = r0 ∧ CIv c M' P' S' ∧ eqx clsX M M' ∧ PX P P'
theorem PX.refl {P : PMem} : PX P P := fun _ _ _ => rfl
theorem pA_x {M M' : Mem} {S : AS} (h : pA M S) (e : ∀ a, a = 0 ∨ a = 1 ∨ a = 3 ∨ a = 4 ∨ a = 5 → ∀ b, M' a b = M a b) : pA M' S := by
  obtain ⟨h1, h2, h3⟩ := h
  exact ⟨fun k hk => by rw [e 1 (by omega)]; exact h1 k hk, by rw [e 0 (by omega)]; exact h2, ToB_e (fun a ha b => e a (by omega) b) h3⟩
theorem pT_x {M M' : Mem} {S : AS} (h : pT M S) (e : ∀ a, a = 8 ∨ a = 10 → ∀ b, M' a b = M a b) : pT M' S := by
  obtain ⟨h1, h2, h3, h4, h5⟩ := h
  exact ⟨fun g hg => by rw [e 10 (by omega)]; exact h1 g hg, by rw [e 8 (by omega)]; exact h2, by rw [e 8 (by omega)]; exact h3, by rw [e 8 (by omega)]; exact h4, by rw [e 8 (by omega)]; exact h5⟩
theorem StR_x {M M' : Mem} {m : Nat} {ms : List MO} (h : StR M m ms) (e : ∀ a, a = m ∨ a = m + 1 ∨ a = m + 2 ∨ a = m + 3 → ∀ b, M' a b = M a b) : StR M' m ms := by
  obtain ⟨h1, h2⟩ := h
  exact ⟨by rw [e m (by omega)]; exact h1, fun k x hk => by rw [e (m + 1) (by omega), e (m + 2) (by omega), e (m + 3) (by omega)]; exact h2 k x hk⟩
theorem pF_x {M M' : Mem} {S : AS} (h : pF M S) (e : ∀ a, 36 ≤ a → a ≤ 44 → ∀ b, M' a b = M a b) : pF M' S := by
  obtain ⟨h1, h2, h3, h4⟩ := h
  exact ⟨by rw [e 36 (by omega) (by omega), e 36 (by omega) (by omega), e 36 (by omega) (by omega)]; exact h1, by rw [e 37 (by omega) (by omega), e 41 (by omega) (by omega)]; exact h2, StR_x h3 (fun a ha b => e a (by omega) (by omega) b), StR_x h4 (fun a ha b => e a (by omega) (by omega) b)⟩
theorem SI_x {M M' : Mem} {T : TB} {N : Nat} {lq : Nat → Nat} (h : SI M 15 8 4320 T N lq) (e : ∀ a, a = 8 ∨ a = 9 ∨ a = 11 ∨ a = 12 ∨ a = 13 ∨ a = 14 ∨ a = 16 → ∀ b, M' a b = M a b) : SI M' 15 8 4320 T N lq := by
  obtain ⟨h1, h2, h3, h4⟩ := h
  refine ⟨TabR_congr h1 (e 8 (by omega)) (e 9 (by omega)) (e 11 (by omega)), LyI_congr h2 (e 12 (by omega)) (e 13 (by omega)) (e 14 (by omega)), fun k i hk hi hl => ?_, h4⟩
  rw [e 16 (by omega)]
  have := h3 k i hk hi hl
  simp only [mvN_congr (e 13 (by omega)) (e 14 (by omega)), e 13 (by omega)]
  exact this
theorem SrI_x {M M' : Mem} {T : TB} {N : Nat} {lq : Nat → Nat} (h : SrI M T N lq) (e : ∀ a, a = 17 ∨ a = 18 ∨ a = 19 ∨ a = 20 → ∀ b, M' a b = M a b) : SrI M' T N lq := by
  rcases h with h | ⟨l0, m, h1, h2, h3⟩
  · exact Or.inl (by rw [e 17 (by omega)]; exact h)
  · exact Or.inr ⟨l0, m, h1, by rw [e 17 (by omega)]; exact h2, SeB_congr h3 (e 17 (by omega)) (e 18 (by omega)) (e 19 (by omega)) (e 20 (by omega))⟩
theorem WhI_x {M M' : Mem} {T : TB} {W : Nat → Nat} {N : Nat} {lq : Nat → Nat} (h : WhI M T W N lq) (e : ∀ b, M' 25 b = M 25 b) : WhI M' T W N lq := by
  unfold WhI at h ⊢
  simp only [e]
  exact h
theorem LyS_x {M M' : Mem} {S : AS} {N : Nat} {lq : Nat → Nat} (h : LyS M S N lq) (e : ∀ a, 8 ≤ a → a ≤ 25 → a ≠ 22 → a ≠ 23 → a ≠ 24 → ∀ b, M' a b = M a b) : LyS M' S N lq :=
  ⟨SI_x h.1 (fun a ha b => e a (by omega) (by omega) (by omega) (by omega) (by omega) b), h.2.1, SrI_x h.2.2.1 (fun a ha b => e a (by omega) (by omega) (by omega) (by omega) (by omega) b), WhI_x h.2.2.2 (e 25 (by omega) (by omega) (by omega) (by omega) (by omega))⟩
theorem LyS.good {M : Mem} {S : AS} {N c : Nat} {lq : Nat → Nat} (h : LyS M S N lq) (hS : SOK c S) {T' : TB} (hn : tn T' = tn (sT S)) : goodT T' N lq := by
  obtain ⟨-, ⟨-, -, -, -, s2, s6, -⟩, -⟩ := hS
  exact ⟨by omega, by omega, LQ_Clo (f0 := sF0 S) (by omega) (by omega) (by rw [hn]; exact h.2.1), h.1.2.1.2.2.1⟩
/-- where a lie of a moment is among the layings -/
theorem LyS.num {M : Mem} {S : AS} {N : Nat} {lq : Nat → Nat} (h : LyS M S N lq) {f : Nat → Nat} (hf : lo8 f) (hA : AR (tn (sT S)) (sF0 S) f) : ∃ l, l < N ∧ lq l = enc f ∧ numO M (enc f) = (l : Int) := by
  obtain ⟨l, l1, l2⟩ := h.2.1.2 f hf hA
  exact ⟨l, l1, l2, by rw [← l2]; exact (h.1.2.1.2.2.2.1 l l1).2⟩
def dnF (f : Nat → Nat) (g : Nat) : Int := if f g = 7 then -4 else (f g : Int)
def isG (S : AS) (i : Int) : Prop := 0 ≤ i ∧ i < (tn (sT S) : Int)
def isD (S : AS) (d : Int) : Prop := 0 ≤ d ∧ d < (sNd S : Int)
def i32r (i : Int) : Prop := -2147483648 ≤ i ∧ i ≤ 2147483647
