/-! what the searches answer, over the whole search -/
noncomputable def ndF (T : TB) (q g d : Nat) : Int := match fstN (fun x => dgf x.1 g = d) (FB T q) with
  | none => -4
  | some p => (p.2.2.1 : Int)
noncomputable def fiF (T : TB) (q g d : Nat) : Int := match fstN (fun x => dgf x.1 g = d) (FB T q) with
  | none => -4
  | some p => if p.1 = 0 then -4 else (p.2.2.2 : Int)
noncomputable def rsF (T : TB) (W : Nat → Nat) (q : Nat) : Int := match fstN (fun x => atR T W (dgf x.1)) (FB T q) with
  | none => -4
  | some p => (p.2.2.1 : Int)
theorem no_dish {T : TB} {N l0 g d : Nat} {lq f0 : Nat → Nat} (hg : goodT T N lq) (h : l0 < N) (hLQ : LQ (tn T) f0 N lq) (hgn : g < tn T) (hd : sFrom f0 d 6 0 < 0) : ∀ x ∈ FB T (lq l0), ¬ dgf x.1 g = d := by
  intro x hx e
  obtain ⟨l, l1, l2⟩ := (FB_done hg h).2.2.2.1 x hx
  have hA := (hLQ.1 l l1).2
  rw [l2] at hA
  have h1 := (cnt_pos (f := dgf x.1) (d := d) (tn T)).mpr ⟨g, hgn, e⟩
  rw [hA.2] at h1
  obtain ⟨i, i1, i2⟩ := (cnt_pos (tn T)).mp h1
  exact (sFrom_neg (f := f0) (d := d) 6 0).mp hd i (by omega) (by have := hg.1; omega) i2
theorem nd_ok {T : TB} {N l0 g d m : Nat} {lq f0 : Nat → Nat} {r : Int} (hg : goodT T N lq) (h : l0 < N) (hLQ : LQ (tn T) f0 N lq) (hgn : g < tn T) (hr : (∃ (k : Nat) (e : BE), r = (e.2.1 : Int) ∧ FDp (fun x => dgf x.1 g = d) (bXn T m (st0 (lq l0))) k e) ∨ (r = -4 ∧ (sFrom f0 d 6 0 < 0 ∨ ∃ k, LKp (fun x => dgf x.1 g = d) 1000000 (bXn T m (st0 (lq l0))) k))) : r = ndF T (lq l0) g d := by
  unfold ndF
  rcases hr with ⟨k, e, h1, h2⟩ | ⟨h1, h2⟩
  · rw [fstN_1 (FB_fst hg h h2)]; exact h1
  · rw [fstN_0 (by
      rcases h2 with h2 | ⟨k, h2⟩
      · exact no_dish hg h hLQ hgn h2
      · exact FB_none hg h h2)]
    exact h1
theorem fi_ok {T : TB} {N l0 g d m : Nat} {lq f0 : Nat → Nat} {r : Int} (hg : goodT T N lq) (h : l0 < N) (hLQ : LQ (tn T) f0 N lq) (hgn : g < tn T) (hr : (∃ (k : Nat) (e : BE), (if k = 0 then r = -4 else r = (e.2.2 : Int)) ∧ FDp (fun x => dgf x.1 g = d) (bXn T m (st0 (lq l0))) k e) ∨ (r = -4 ∧ (sFrom f0 d 6 0 < 0 ∨ ∃ k, LKp (fun x => dgf x.1 g = d) 1000000 (bXn T m (st0 (lq l0))) k))) : r = fiF T (lq l0) g d := by
  unfold fiF
  rcases hr with ⟨k, e, h1, h2⟩ | ⟨h1, h2⟩
  · rw [fstN_1 (FB_fst hg h h2)]
    show r = if k = 0 then -4 else (e.2.2 : Int)
    split at h1
    · rename_i z; rw [if_pos z]; exact h1
    · rename_i z; rw [if_neg z]; exact h1
  · rw [fstN_0 (by
      rcases h2 with h2 | ⟨k, h2⟩
      · exact no_dish hg h hLQ hgn h2
      · exact FB_none hg h h2)]
    exact h1
theorem rs_ok {T : TB} {N l0 m : Nat} {W lq : Nat → Nat} {r : Int} (hg : goodT T N lq) (h : l0 < N) (hr : (∃ (k : Nat) (e : BE), r = (e.2.1 : Int) ∧ (e.2.1 : Int) < 1000000 ∧ FDp (fun x => atR T W (dgf x.1)) (bXn T m (st0 (lq l0))) k e) ∨ (r = -4 ∧ ∃ k, LKp (fun x => atR T W (dgf x.1)) 1000000 (bXn T m (st0 (lq l0))) k)) : r = rsF T W (lq l0) := by
  unfold rsF
  rcases hr with ⟨k, e, h1, -, h2⟩ | ⟨h1, k, h2⟩
  · rw [fstN_1 (FB_fst hg h h2)]; exact h1
  · rw [fstN_0 (FB_none hg h h2)]; exact h1
/-- a guest comes to have a dish -/
def rcP (T : TB) (q g d : Nat) : Prop := ∃ e ∈ FB T q, dgf e.1 g = d
theorem metN_tb {so : Nat} {L : List BE} {j : Nat} : ∀ k, ((metN so L k).testBit j = true ↔ so.testBit j = true ∧ ∃ k', k' < k ∧ (encH (hbit (dgf (ent L k').1))).testBit j = true)
  | 0 => by
    unfold metN
    rw [Nat.zero_testBit]
    exact ⟨fun h => (by cases h), fun ⟨_, k', h, _⟩ => by omega⟩
  | k + 1 => by
    unfold metN
    rw [Nat.testBit_or, Bool.or_eq_true, metN_tb k, Nat.testBit_and, Bool.and_eq_true]
    constructor
    · rintro (⟨h1, k', h2, h3⟩ | ⟨h1, h2⟩)
      · exact ⟨h1, k', by omega, h3⟩
      · exact ⟨h1, k, by omega, h2⟩
    · rintro ⟨h1, k', h2, h3⟩
      rcases Nat.lt_or_ge k' k with z | z
      · exact Or.inl ⟨h1, k', z, h3⟩
      · rw [show k' = k by omega] at h3
        exact Or.inr ⟨h1, h3⟩
theorem hb_tb {q g d : Nat} (h : lieOK (dgf q)) (hd : d < 6) : (hbit (dgf q) g).testBit d = true ↔ dgf q g = d := by
  unfold hbit
  split
  · rename_i z
    rw [Nat.zero_testBit, z]
    exact ⟨fun h => (by cases h), fun h => by omega⟩
  · rw [Nat.testBit_two_pow]
    simp
theorem pr_ok {T : TB} {N l0 so z : Nat} {lq : Nat → Nat} (hg : goodT T N lq) (h : l0 < N) (hl : ∀ l, l < N → lieOK (dgf (lq l))) (hp : isPR T (lq l0) so z) : ∀ g d, g < 6 → d < 6 → (z.testBit (6 * g + d) = true ↔ so.testBit (6 * g + d) = true ∧ rcP T (lq l0) g d) := by
  obtain ⟨m, k, h1, h2, h3⟩ := hp
  intro g d hg6 hd
  have hlie : ∀ e ∈ FB T (lq l0), lieOK (dgf e.1) := fun e he => by
    obtain ⟨l, l1, l2⟩ := (FB_done hg h).2.2.2.1 e he
    rw [← l2]; exact hl l l1
  have hpre : ∀ k', k' < k → ent (bXn T m (st0 (lq l0))).1 k' ∈ FB T (lq l0) := fun k' hk' => by
    obtain ⟨x, hx⟩ := h2 k' hk'
    rw [ent_some hx]
    exact List.mem_of_getElem? (FB_pre hg h hx)
  have key : ∀ e ∈ FB T (lq l0), ((encH (hbit (dgf e.1))).testBit (6 * g + d) = true ↔ dgf e.1 g = d) := fun e he => by
    unfold encH
    rw [encK_tb (hbit_lo (hlie e he)), show (6 * g + d) / 6 = g by omega, show (6 * g + d) % 6 = d by omega, Bool.and_eq_true, hb_tb (hlie e he) hd]
    simp
    omega
  rw [h1, metN_tb]
  constructor
  · rintro ⟨a1, k', a2, a3⟩
    exact ⟨a1, _, hpre k' a2, (key _ (hpre k' a2)).mp a3⟩
  · rintro ⟨a1, e, a2, a3⟩
    refine ⟨a1, ?_⟩
    rcases h3 with h3 | h3 | h3
    · have hlen := FB_len hg h
      obtain ⟨i, hi, e1⟩ := List.mem_iff_getElem.mp a2
      obtain ⟨x, hx⟩ := h2 i (by omega)
      have := FB_pre hg h hx
      rw [List.getElem?_eq_getElem hi, e1] at this
      refine ⟨i, by omega, ?_⟩
      rw [ent_some hx, ← Option.some.inj this]
      exact (key e a2).mpr a3
    · have : (metN so (bXn T m (st0 (lq l0))).1 k).testBit (6 * g + d) = true := by rw [h3]; exact a1
      exact (metN_tb k).mp this |>.2
    · have := FB_none (Pd := fun x => ¬ ∃ k', k' < k ∧ (bXn T m (st0 (lq l0))).1[k']? = some x) (k := k) hg h ⟨fun k' hk' => by
        obtain ⟨x, hx⟩ := h2 k' hk'
        exact ⟨x, hx, fun z => z ⟨k', hk', hx⟩⟩, Or.inr h3⟩ e a2
      obtain ⟨k', b1, b2⟩ := Classical.not_not.mp this
      refine ⟨k', b1, ?_⟩
      rw [ent_some b2]
      exact (key e a2).mpr a3
noncomputable def nvF (T : TB) (q g : Nat) : Nat → Nat
  | 0 => 0
  | d + 1 => by classical exact nvF T q g d + (if rcP T q g d then 0 else 2 ^ d)
theorem nvF_lt {T : TB} {q g : Nat} : ∀ d, nvF T q g d < 2 ^ d
  | 0 => by simp [nvF]
  | d + 1 => by
    have := nvF_lt (T := T) (q := q) (g := g) d
    unfold nvF
    rw [Nat.pow_succ]
    split <;> omega
theorem nvF_tb {T : TB} {q g j : Nat} : ∀ d, (nvF T q g d).testBit j = true ↔ j < d ∧ ¬ rcP T q g j
  | 0 => by unfold nvF; rw [Nat.zero_testBit]; exact ⟨fun h => (by cases h), fun h => by omega⟩
  | d + 1 => by
    have hl := nvF_lt (T := T) (q := q) (g := g) d
    have ih := nvF_tb (T := T) (q := q) (g := g) (j := j) d
    unfold nvF
    by_cases z : rcP T q g d
    · rw [if_pos z, Nat.add_zero, ih]
      constructor
      · rintro ⟨a, b⟩; exact ⟨by omega, b⟩
      · rintro ⟨a, b⟩
        refine ⟨?_, b⟩
        rcases Nat.lt_or_ge j d with y | y
        · exact y
        · rw [show j = d by omega] at b; exact absurd z b
    · rw [if_neg z, Nat.add_comm, show 2 ^ d + nvF T q g d = 2 ^ d * 1 + nvF T q g d by omega, Nat.testBit_two_pow_mul_add _ hl]
      by_cases y : j < d
      · rw [if_pos y, ih]
        exact ⟨fun ⟨a, b⟩ => ⟨by omega, b⟩, fun ⟨a, b⟩ => ⟨y, b⟩⟩
      · rw [if_neg y]
        by_cases x : j = d
        · subst x
          rw [Nat.sub_self]
          exact ⟨fun _ => ⟨by omega, z⟩, fun _ => by decide⟩
        · constructor
          · intro h
            have : (1 : Nat).testBit (j - d) = false := Nat.testBit_lt_two_pow (by
              have : 2 ^ 1 ≤ 2 ^ (j - d) := Nat.pow_le_pow_right (by omega) (by omega)
              omega)
            rw [this] at h; cases h
          · rintro ⟨a, b⟩; omega
theorem all_enc {nd g : Nat} (hg : g < 6) : (2 ^ nd - 1) * 2 ^ (6 * g) = encH (fun x => if x = g then 2 ^ nd - 1 else 0) := by
  rcases (by omega : g = 0 ∨ g = 1 ∨ g = 2 ∨ g = 3 ∨ g = 4 ∨ g = 5) with e | e | e | e | e | e <;> subst e <;> simp [encH, encK, Nat.mul_comm]
theorem nv_ok {T : TB} {N l0 nd g z : Nat} {lq : Nat → Nat} (hg : goodT T N lq) (h : l0 < N) (hl : ∀ l, l < N → lieOK (dgf (lq l))) (hg6 : g < 6) (hnd : nd ≤ 6) (hp : isPR T (lq l0) (encH (fun x => if x = g then 2 ^ nd - 1 else 0)) z) (hz : z < 2 ^ 36) : encH (fun x => if x = g then 2 ^ nd - 1 else 0) ^^^ (encH (fun x => if x = g then 2 ^ nd - 1 else 0) &&& z) = encH (fun x => if x = g then nvF T (lq l0) g nd else 0) := by
  have h6 : 2 ^ nd ≤ 2 ^ 6 := Nat.pow_le_pow_right (by omega) hnd
  have l1 : lo64 (fun x => if x = g then 2 ^ nd - 1 else 0) := fun i => by dsimp only; split <;> omega
  have l2 : lo64 (fun x => if x = g then nvF T (lq l0) g nd else 0) := fun i => by
    have := nvF_lt (T := T) (q := lq l0) (g := g) nd
    dsimp only; split <;> omega
  apply Nat.eq_of_testBit_eq
  intro j
  rw [Nat.testBit_xor, Nat.testBit_and]
  by_cases hj : j < 36
  · have hp2 := pr_ok hg h hl hp (j / 6) (j % 6) (by omega) (Nat.mod_lt _ (by omega))
    rw [show 6 * (j / 6) + j % 6 = j by omega] at hp2
    unfold encH at hp2 ⊢
    rw [encK_tb l1] at hp2 ⊢
    rw [encK_tb l2]
    have hj' : decide (j < 6 * 6) = true := by simp; omega
    rw [hj'] at hp2 ⊢
    simp only [Bool.true_and] at hp2 ⊢
    by_cases hjg : j / 6 = g
    · simp only [if_pos hjg] at hp2 ⊢
      rw [hjg] at hp2
      have hall : (2 ^ nd - 1).testBit (j % 6) = decide (j % 6 < nd) := Nat.testBit_two_pow_sub_one nd (j % 6)
      have hnv := nvF_tb (T := T) (q := lq l0) (g := g) (j := j % 6) nd
      rw [hall] at hp2 ⊢
      by_cases h1 : j % 6 < nd
      · by_cases h2 : rcP T (lq l0) g (j % 6)
        · have a : z.testBit j = true := hp2.mpr ⟨by simp [h1], h2⟩
          have b : (nvF T (lq l0) g nd).testBit (j % 6) = false := by
            cases hh : (nvF T (lq l0) g nd).testBit (j % 6) with
            | false => rfl
            | true => exact absurd h2 (hnv.mp hh).2
          rw [a, b]; simp [h1]
        · have a : z.testBit j = false := by
            cases hh : z.testBit j with
            | false => rfl
            | true => exact absurd (hp2.mp hh).2 h2
          have b : (nvF T (lq l0) g nd).testBit (j % 6) = true := hnv.mpr ⟨h1, h2⟩
          rw [a, b]; simp [h1]
      · have b : (nvF T (lq l0) g nd).testBit (j % 6) = false := by
          cases hh : (nvF T (lq l0) g nd).testBit (j % 6) with
          | false => rfl
          | true => exact absurd (hnv.mp hh).1 h1
        rw [b]; simp [h1]
    · simp only [if_neg hjg]; simp
  · unfold encH
    rw [encK_tb l1, encK_tb l2]
    have : ¬ j < 6 * 6 := by omega
    simp [this]
