/-! askings only arrange anew -/
def nx (n s u : Nat) : Nat := if u = 1 then (if s + 1 < n then s + 1 else 0) else (if s = 0 then n - 1 else s - 1)
def pfree (n x to u : Nat) : Nat → Nat → Bool
  | 0, _ => false
  | k + 1, s => if s = to then true else if s = x then false else pfree n x to u k (nx n s u)
theorem pfree_all : ∀ n, n < 7 → ∀ i, i < n → ∀ j, j < n → ∀ u, u < 2 → i ≠ j → pfree n i j u 6 (nx n i u) = true := by decide
theorem car_x {T : TB} {x to u : Nat} : ∀ k (f : Nat → Nat) (g s : Nat), pfree (tn T) x to u k s = true → x ≠ to → car T k f g s to u x = f x
  | 0, _, _, _, h, _ => by cases h
  | k + 1, f, g, s, h, hx => by
    unfold pfree at h
    unfold car
    by_cases z : s = to
    · rw [if_pos z]; unfold ud; rw [if_neg hx]
    · rw [if_neg z] at h ⊢
      by_cases y : s = x
      · rw [if_pos y] at h; cases h
      · rw [if_neg y] at h
        split
        · refine (car_x (T := T) k (ud f s g) (f s) _ h hx).trans ?_
          unfold ud; rw [if_neg (fun e => y e.symm)]
        · exact car_x (T := T) k f g _ h hx
theorem car_cnt {T : TB} {to u d : Nat} (h2 : 2 ≤ tn T) (ht : to < tn T) : ∀ k (f : Nat → Nat) (g s : Nat), s < tn T → cnt (tn T) (car T k f g s to u) d + (if f to = d then 1 else 0) = cnt (tn T) f d + (if g = d then 1 else 0)
  | 0, f, g, s, hs => cnt_ud _ ht
  | k + 1, f, g, s, hs => by
    unfold car
    by_cases z : s = to
    · rw [if_pos z]; exact cnt_ud _ ht
    · rw [if_neg z]
      split
      · have a := car_cnt (d := d) (u := u) h2 ht k (ud f s g) (f s) (nxt T s u) (nxt_lt h2 hs)
        have b := cnt_ud (f := f) (i := s) (v := g) (d := d) _ hs
        rw [show ud f s g to = f to by unfold ud; rw [if_neg (fun e => z e.symm)]] at a
        omega
      · exact car_cnt h2 ht k f g _ (nxt_lt h2 hs)
theorem car_out {T : TB} {to u x : Nat} (h2 : 2 ≤ tn T) (ht : to < tn T) (hx : tn T ≤ x) : ∀ k (f : Nat → Nat) (g s : Nat), s < tn T → car T k f g s to u x = f x
  | 0, f, g, s, hs => by unfold car ud; rw [if_neg (by omega)]
  | k + 1, f, g, s, hs => by
    unfold car
    split
    · unfold ud; rw [if_neg (by omega)]
    · split
      · rw [car_out h2 ht hx k _ _ _ (nxt_lt h2 hs)]; unfold ud; rw [if_neg (by omega)]
      · exact car_out h2 ht hx k f g _ (nxt_lt h2 hs)
theorem chd_AR {T : TB} {f0 f : Nat → Nat} {s : Nat} (h2 : 2 ≤ tn T) (hs : s < tn T) (h : AR (tn T) f0 f) : AR (tn T) f0 (chd T f s) := by
  unfold chd
  split
  · exact AR_sw h hs (nxt_lt h2 hs)
  · exact h
theorem stp_le {T : TB} {i j : Nat} : stp T i j < 2 := by unfold stp; split <;> split <;> omega
theorem aft_AR {T : TB} {f0 f : Nat → Nat} {i j : Nat} (h2 : 2 ≤ tn T) (h6 : tn T ≤ 6) (hi : i < tn T) (hj : j < tn T) (hij : i ≠ j) (h : AR (tn T) f0 f) : AR (tn T) f0 (aft T f i j) := by
  unfold aft
  refine chd_AR h2 hj (chd_AR h2 hi ⟨fun x h1 hx => ?_, fun d => ?_⟩)
  · rw [car_out h2 hi h1 _ _ _ _ (nxt_lt h2 hj), car_out h2 hj h1 _ _ _ _ (nxt_lt h2 hi)]
    unfold ud; rw [if_neg (by omega), if_neg (by omega)]; exact h.1 x h1 hx
  · have hst := stp_le (T := T) (i := i) (j := j)
    have a := car_cnt (T := T) (u := 1 - stp T i j) (d := d) h2 hi 6 (car T 6 (ud (ud f i 7) j 7) (f i) (nxt T i (stp T i j)) j (stp T i j)) (f j) (nxt T j (1 - stp T i j)) (nxt_lt h2 hj)
    have b := car_cnt (T := T) (u := stp T i j) (d := d) h2 hj 6 (ud (ud f i 7) j 7) (f i) (nxt T i (stp T i j)) (nxt_lt h2 hi)
    have e1 := car_x (T := T) (x := i) (to := j) (u := stp T i j) 6 (ud (ud f i 7) j 7) (f i) (nxt T i (stp T i j)) (pfree_all (tn T) (by omega) i hi j hj _ hst hij) hij
    rw [e1] at a
    rw [show ud (ud f i 7) j 7 i = 7 by unfold ud; rw [if_neg hij, if_pos rfl]] at a
    rw [show ud (ud f i 7) j 7 j = 7 by unfold ud; rw [if_pos rfl]] at b
    have c := cnt_ud (f := ud f i 7) (i := j) (v := 7) (d := d) _ hj
    have e := cnt_ud (f := f) (i := i) (v := 7) (d := d) _ hi
    rw [show ud f i 7 j = f j by unfold ud; rw [if_neg (fun z => hij z.symm)]] at c
    rw [← h.2 d]
    omega
/-- the layings are all arrangements -/
def LQ (n : Nat) (f0 : Nat → Nat) (N : Nat) (lq : Nat → Nat) : Prop := (∀ l, l < N → lq l < 262144 ∧ AR n f0 (dgf (lq l))) ∧ ∀ g, lo8 g → AR n f0 g → ∃ l, l < N ∧ lq l = enc g
theorem LQ_Clo {T : TB} {f0 : Nat → Nat} {N : Nat} {lq : Nat → Nat} (h2 : 2 ≤ tn T) (h6 : tn T ≤ 6) (h : LQ (tn T) f0 N lq) : Clo T N lq := fun l i j hl hc =>
  h.2 _ (aft_lo (dgf_lo _)) (aft_AR h2 h6 hc.2.1 hc.2.2.1 hc.1 (h.1 l hl).2)
theorem ga_all {M : Mem} {n : Nat} {f0 : Nat → Nat} (hB : ∀ k, k < 720 → 0 ≤ M 13 k ∧ M 13 k < 262144) (hn : n ≤ 6) (hf0 : lo8 f0) (h7 : ∀ i, n ≤ i → i < 6 → f0 i = 7) : ∃ N lq, LyI (gaM M (enc f0) n) N lq ∧ LQ n f0 N lq ∧ ∀ a, a ≠ 12 → a ≠ 13 → a ≠ 14 → ∀ b, gaM M (enc f0) n a b = M a b := by
  have hA0 : AR n f0 f0 := ⟨h7, fun _ => rfl⟩
  have hq := enc_lt hf0
  have hB0 := ga0_B (M := M) (q := enc f0) hB hq
  have e0 : flM (upM M 12 0 0) 14 1023 2048 12 0 = 0 := by unfold flM; rw [if_neg (by omega), upM_self]
  have e14 : ∀ s, s < 2048 → flM (upM M 12 0 0) 14 1023 2048 14 s = 1023 := fun s hs => by unfold flM; rw [if_pos ⟨rfl, hs⟩]
  have h0 : GI n f0 (flM (upM M 12 0 0) 14 1023 2048) := ⟨hB0, fun l hl => by rw [e0] at hl; omega, fun s hs => Or.inl (e14 s hs), fun s s' hs _ _ he => absurd (e14 s hs) he, fun l hl => by rw [e0] at hl; omega⟩
  obtain ⟨a1, a2, a3⟩ := GI_add hn h0 hq (AR_congr hn hA0 (fun i hi => dgf_enc hf0 hi))
  obtain ⟨b1, b2, b3⟩ := GI_K hn 720 0 _ a1 (by omega) (fun k' i j h => by omega) (by have := a1.1.2.2; omega)
  unfold gaM
  refine ⟨_, _, GI_LyI b1, ⟨fun l hl => ?_, fun g hg hA => ?_⟩, fun a h12 h13 h14 b => ?_⟩
  · have hv := b1.1.2.2
    have := b1.1.1 l (by omega)
    refine ⟨?_, b1.2.2.2.2 l (by omega)⟩
    dsimp only
    omega
  · obtain ⟨l, l1, l2⟩ := sw_all hn b1 b3 (inL_ex b2 a2) hf0 hA0 hg hA
    refine ⟨l, by omega, ?_⟩
    dsimp only
    omega
  · rw [b2.2.2 a h12 h13 h14, a3.2.2 a h12 h13 h14]
    unfold flM; rw [if_neg (fun z => h14 z.1), upM_ne h12]
theorem AR_lie {n : Nat} {f0 f : Nat → Nat} (h0 : ∀ i, f0 i < 6 ∨ f0 i = 7) (h : AR n f0 f) : ∀ i, i < n → f i < 6 ∨ f i = 7 := fun i hi => by
  have := (cnt_pos (f := f) (d := f i) n).mpr ⟨i, hi, rfl⟩
  rw [h.2] at this
  obtain ⟨i', -, e⟩ := (cnt_pos n).mp this
  rw [← e]; exact h0 i'
theorem LQ_lie {n N : Nat} {f0 : Nat → Nat} {lq : Nat → Nat} (h0 : ∀ i, f0 i < 6 ∨ f0 i = 7) (h : LQ n f0 N lq) : ∀ l, l < N → lieOK (dgf (lq l)) := fun l hl i => by
  obtain ⟨h1, h2⟩ := h.1 l hl
  rcases Nat.lt_or_ge i n with z | z
  · exact AR_lie h0 h2 i z
  · rcases Nat.lt_or_ge i 6 with y | y
    · exact Or.inr (h2.1 i z y)
    · left
      unfold dgf
      have : lq l / 2 ^ (3 * i) = 0 := Nat.div_eq_of_lt (Nat.lt_of_lt_of_le h1 (by
        have : 2 ^ 18 ≤ 2 ^ (3 * i) := Nat.pow_le_pow_right (by omega) (by omega)
        omega))
      rw [this]; decide
