/-! arrangements of the same dishes -/
def cnt : Nat → (Nat → Nat) → Nat → Nat
  | 0, _, _ => 0
  | n + 1, f, d => cnt n f d + (if f n = d then 1 else 0)
theorem cnt_congr {f g : Nat → Nat} {d : Nat} : ∀ n, (∀ i, i < n → f i = g i) → cnt n f d = cnt n g d
  | 0, _ => rfl
  | n + 1, h => by unfold cnt; rw [cnt_congr n (fun i hi => h i (by omega)), h n (by omega)]
theorem cnt_ud {f : Nat → Nat} {i v d : Nat} : ∀ n, i < n → cnt n (ud f i v) d + (if f i = d then 1 else 0) = cnt n f d + (if v = d then 1 else 0)
  | 0, h => by omega
  | n + 1, h => by
    unfold cnt
    by_cases q : i = n
    · subst q
      rw [cnt_congr i (fun k hk => show ud f i v k = f k by unfold ud; rw [if_neg (by omega)]), show ud f i v i = v by unfold ud; rw [if_pos rfl]]
      omega
    · have := cnt_ud (f := f) (i := i) (v := v) (d := d) n (by omega)
      rw [show ud f i v n = f n by unfold ud; rw [if_neg (by omega)]]
      omega
theorem cnt_pos {f : Nat → Nat} {d : Nat} : ∀ n, cnt n f d ≠ 0 ↔ ∃ i, i < n ∧ f i = d
  | 0 => ⟨fun h => absurd rfl h, fun ⟨i, h, _⟩ => by omega⟩
  | n + 1 => by
    unfold cnt
    have ih := cnt_pos (f := f) (d := d) n
    constructor
    · intro h
      by_cases q : f n = d
      · exact ⟨n, by omega, q⟩
      · rw [if_neg q] at h
        obtain ⟨i, hi, h2⟩ := ih.mp h
        exact ⟨i, by omega, h2⟩
    · rintro ⟨i, hi, h2⟩
      by_cases q : f n = d
      · rw [if_pos q]; omega
      · rw [if_neg q]
        have := ih.mpr ⟨i, by rcases Nat.lt_or_ge i n with z | z; exact z; exact absurd (by rw [show n = i by omega]; exact h2) q, h2⟩
        omega
theorem sw_same {f : Nat → Nat} {i : Nat} : sw f i i = f := by
  funext x; unfold sw ud
  by_cases q : x = i
  · rw [if_pos q, q]
  · rw [if_neg q, if_neg q]
theorem cnt_sw {f : Nat → Nat} {n i j d : Nat} (hi : i < n) (hj : j < n) : cnt n (sw f i j) d = cnt n f d := by
  by_cases q : i = j
  · rw [q, sw_same]
  · unfold sw
    have h1 := cnt_ud (f := ud f i (f j)) (i := j) (v := f i) (d := d) n hj
    have h2 := cnt_ud (f := f) (i := i) (v := f j) (d := d) n hi
    rw [show ud f i (f j) j = f j by unfold ud; rw [if_neg (by omega)]] at h1
    omega
def AR (n : Nat) (f0 f : Nat → Nat) : Prop := (∀ i, n ≤ i → i < 6 → f i = 7) ∧ ∀ d, cnt n f d = cnt n f0 d
theorem AR_congr {n : Nat} {f0 f g : Nat → Nat} (hn : n ≤ 6) (h : AR n f0 f) (e : ∀ i, i < 6 → g i = f i) : AR n f0 g :=
  ⟨fun i h1 h2 => by rw [e i h2]; exact h.1 i h1 h2, fun d => by rw [cnt_congr n (fun i hi => e i (by omega))]; exact h.2 d⟩
theorem AR_sw {n i j : Nat} {f0 f : Nat → Nat} (h : AR n f0 f) (hi : i < n) (hj : j < n) : AR n f0 (sw f i j) :=
  ⟨fun k h1 h2 => by unfold sw ud; rw [if_neg (by omega), if_neg (by omega)]; exact h.1 k h1 h2, fun d => by rw [cnt_sw hi hj]; exact h.2 d⟩
/-! how many there can be -/
def ixL : List Nat → Nat → Nat
  | [], _ => 0
  | a :: l, x => if a = x then 0 else ixL l x + 1
theorem ixL_lt : ∀ (l : List Nat) (x : Nat), x ∈ l → ixL l x < l.length
  | [], _, h => by cases h
  | a :: l, x, h => by
    unfold ixL
    by_cases q : a = x
    · rw [if_pos q]; simp
    · rw [if_neg q]
      rcases List.mem_cons.mp h with h | h
      · exact absurd h.symm q
      · have := ixL_lt l x h
        rw [List.length_cons]; omega
theorem ixL_inj : ∀ (l : List Nat) (x y : Nat), x ∈ l → y ∈ l → ixL l x = ixL l y → x = y
  | [], _, _, h, _, _ => by cases h
  | a :: l, x, y, h, h', e => by
    unfold ixL at e
    by_cases q : a = x
    · rw [if_pos q] at e
      by_cases q2 : a = y
      · omega
      · rw [if_neg q2] at e; omega
    · rw [if_neg q] at e
      by_cases q2 : a = y
      · rw [if_pos q2] at e; omega
      · rw [if_neg q2] at e
        rcases List.mem_cons.mp h with h | h
        · exact absurd h.symm q
        · rcases List.mem_cons.mp h' with h' | h'
          · exact absurd h'.symm q2
          · exact ixL_inj l x y h h' (by omega)
def fct : Nat → Nat
  | 0 => 1
  | n + 1 => (n + 1) * fct n
def rkL : List Nat → List Nat → Nat
  | _, [] => 0
  | it, x :: xs => ixL it x + it.length * rkL (it.erase x) xs
theorem rkL_lt : ∀ (xs it : List Nat), List.Perm xs it → rkL it xs < fct xs.length
  | [], _, _ => by unfold rkL fct; simp
  | x :: xs, it, h => by
    obtain ⟨h1, h2⟩ := List.cons_perm_iff_perm_erase.mp h
    have hl := h.length_eq
    have a1 := ixL_lt it x h1
    have a2 := rkL_lt xs _ h2
    unfold rkL
    rw [List.length_cons] at hl ⊢
    unfold fct
    rw [← hl] at a1 ⊢
    have : (xs.length + 1) * (rkL (it.erase x) xs + 1) ≤ (xs.length + 1) * fct xs.length := Nat.mul_le_mul (Nat.le_refl _) a2
    rw [Nat.mul_add] at this
    omega
theorem rkL_inj : ∀ (xs ys it : List Nat), List.Perm xs it → List.Perm ys it → rkL it xs = rkL it ys → xs = ys
  | [], ys, it, h, h', _ => by
    have := h.length_eq
    have := h'.length_eq
    cases ys with
    | nil => rfl
    | cons y ys => simp at *; omega
  | x :: xs, ys, it, h, h', e => by
    cases ys with
    | nil =>
      have := h.length_eq
      have := h'.length_eq
      simp at *; omega
    | cons y ys =>
      obtain ⟨h1, h2⟩ := List.cons_perm_iff_perm_erase.mp h
      obtain ⟨h3, h4⟩ := List.cons_perm_iff_perm_erase.mp h'
      have a1 := ixL_lt it x h1
      have a2 := ixL_lt it y h3
      unfold rkL at e
      have hm : ixL it x = ixL it y := by
        have e1 : (ixL it x + it.length * rkL (it.erase x) xs) % it.length = ixL it x := by rw [Nat.add_mul_mod_self_left, Nat.mod_eq_of_lt a1]
        have e2 : (ixL it y + it.length * rkL (it.erase y) ys) % it.length = ixL it y := by rw [Nat.add_mul_mod_self_left, Nat.mod_eq_of_lt a2]
        rw [← e1, ← e2, e]
      have hxy := ixL_inj it x y h1 h3 hm
      subst hxy
      have : rkL (it.erase x) xs = rkL (it.erase x) ys := Nat.eq_of_mul_eq_mul_left (show 0 < it.length by omega) (by omega)
      rw [rkL_inj xs ys _ h2 h4 this]
theorem fct_le {n : Nat} (h : n ≤ 6) : fct n ≤ 720 := by
  rcases (by omega : n = 0 ∨ n = 1 ∨ n = 2 ∨ n = 3 ∨ n = 4 ∨ n = 5 ∨ n = 6) with e | e | e | e | e | e | e <;> subst e <;> decide
abbrev flL (n : Nat) (f : Nat → Nat) : List Nat := (List.range n).map f
theorem cnt_flL {f : Nat → Nat} {d : Nat} : ∀ n, (flL n f).count d = cnt n f d
  | 0 => rfl
  | n + 1 => by
    unfold flL cnt
    rw [List.range_succ, List.map_append, List.count_append]
    have := cnt_flL (f := f) (d := d) n
    unfold flL at this
    rw [this]
    congr 1
    by_cases q : f n = d
    · rw [if_pos q, ← q]; simp
    · rw [if_neg q]; simp [q]
theorem AR_perm {n : Nat} {f0 f : Nat → Nat} (h : AR n f0 f) : List.Perm (flL n f) (flL n f0) := List.perm_iff_count.mpr (fun d => by rw [cnt_flL, cnt_flL]; exact h.2 d)
theorem AR_eq {n : Nat} {f0 f g : Nat → Nat} (h : AR n f0 f) (h' : AR n f0 g) (e : rkL (flL n f0) (flL n f) = rkL (flL n f0) (flL n g)) : ∀ i, i < 6 → f i = g i := by
  have := rkL_inj _ _ _ (AR_perm h) (AR_perm h') e
  intro i hi
  rcases Nat.lt_or_ge i n with q | q
  · have h1 : (flL n f)[i]? = (flL n g)[i]? := by rw [this]
    unfold flL at h1
    rw [List.getElem?_map, List.getElem?_map, List.getElem?_range q] at h1
    exact Option.some.inj h1
  · rw [h.1 i q hi, h'.1 i q hi]
/-- no more than 720 of them, one beside the other -/
theorem AR_720 {n m : Nat} {f0 : Nat → Nat} (hn : n ≤ 6) (g : Nat → Nat → Nat) (h : ∀ k, k < m → AR n f0 (g k)) (hi : ∀ a b, a < m → b < m → (∀ i, i < 6 → g a i = g b i) → a = b) : m ≤ 720 := by
  refine php 720 m (fun k => rkL (flL n f0) (flL n (g k))) (fun k hk => ?_) (fun a b ha hb e => ?_)
  · have := rkL_lt _ _ (AR_perm (h k hk))
    have e : (flL n (g k)).length = n := by simp
    rw [e] at this
    have := fct_le hn
    omega
  · exact hi a b ha hb (AR_eq (h a ha) (h b hb) e)
/-! the layings as they are gathered -/
def GI (n : Nat) (f0 : Nat → Nat) (M : Mem) : Prop := LyB M ∧ (∀ l : Nat, (l : Int) < M 12 0 → numO M (M 13 l).toNat = (l : Int)) ∧ (∀ s, s < 2048 → M 14 s = 1023 ∨ (0 ≤ M 14 s ∧ M 14 s < M 12 0)) ∧ (∀ s s', s < 2048 → s' < 2048 → M 14 s = M 14 s' → M 14 s ≠ 1023 → s = s') ∧ (∀ l : Nat, (l : Int) < M 12 0 → AR n f0 (dgf (M 13 l).toNat))
theorem slF_all {M : Mem} {q : Nat} : ∀ c s, (M 14 (slF M q c s) = 1023 ∨ M 13 (M 14 (slF M q c s)).toNat = (q : Int)) ∨ ∀ t, t < c → M 14 ((s + t) % 2048) ≠ 1023 ∨ 2048 ≤ s
  | 0, s => Or.inr (fun t ht => by omega)
  | c + 1, s => by
    rcases Nat.lt_or_ge s 2048 with hs | hs
    · unfold slF
      by_cases h : M 14 s = 1023 ∨ M 13 (M 14 s).toNat = (q : Int)
      · rw [if_pos h]; exact Or.inl h
      · rw [if_neg h]
        rcases slF_all (M := M) (q := q) c ((s + 1) % 2048) with h2 | h2
        · exact Or.inl h2
        · refine Or.inr (fun t ht => Or.inl ?_)
          cases t with
          | zero => rw [Nat.add_zero, Nat.mod_eq_of_lt hs]; exact fun z => h (Or.inl z)
          | succ t =>
            rcases h2 t (by omega) with z | z
            · rw [Nat.mod_add_mod] at z
              rw [show s + (t + 1) = s + 1 + t by omega]; exact z
            · have := Nat.mod_lt (s + 1) (show 0 < 2048 by omega); omega
    · exact Or.inr (fun t ht => Or.inr hs)
theorem GI_stop {n : Nat} {f0 : Nat → Nat} {M : Mem} (h : GI n f0 M) (q : Nat) : numO M q = 1023 ∨ M 13 (numO M q).toNat = (q : Int) := by
  obtain ⟨h1, h2, h3, h4, h5⟩ := h
  rcases slF_all (M := M) (q := q) 2048 (hsh q) with z | z
  · exact z
  · exfalso
    have hh := hsh_lt q
    have : 2048 ≤ 720 := by
      refine php 720 2048 (fun s => (M 14 s).toNat) (fun s hs => ?_) (fun s s' hs hs' e => ?_)
      · have h0 : M 14 s ≠ 1023 := by
          rcases z ((s + 2048 - hsh q) % 2048) (Nat.mod_lt _ (by omega)) with y | y
          · rw [Nat.add_mod_mod, show hsh q + (s + 2048 - hsh q) = s + 2048 by omega, Nat.add_mod_right, Nat.mod_eq_of_lt hs] at y
            exact y
          · omega
        have := h3 s hs
        have := h1.2.2
        omega
      · have h0 : ∀ s, s < 2048 → M 14 s ≠ 1023 := fun s hs => by
          rcases z ((s + 2048 - hsh q) % 2048) (Nat.mod_lt _ (by omega)) with y | y
          · rw [Nat.add_mod_mod, show hsh q + (s + 2048 - hsh q) = s + 2048 by omega, Nat.add_mod_right, Nat.mod_eq_of_lt hs] at y
            exact y
          · omega
        have e' : (M 14 s).toNat = (M 14 s').toNat := e
        have a := h3 s hs
        have b := h3 s' hs'
        have a0 := h0 s hs
        have b0 := h0 s' hs'
        exact h4 s s' hs hs' (by omega) a0
    omega
theorem GI_in {n : Nat} {f0 : Nat → Nat} {M : Mem} (h : GI n f0 M) {q : Nat} (hq : numO M q ≠ 1023) : ∃ l : Nat, (l : Int) < M 12 0 ∧ numO M q = (l : Int) ∧ M 13 l = (q : Int) := by
  have h3 := h.2.2.1 _ (sltO_lt (M := M) (q := q))
  have hs := GI_stop h q
  have h4 : numO M q = M 14 (sltO M q) := rfl
  refine ⟨(numO M q).toNat, by omega, by omega, ?_⟩
  rcases hs with z | z
  · exact absurd z hq
  · exact z
theorem GI_LyI {n : Nat} {f0 : Nat → Nat} {M : Mem} (h : GI n f0 M) : LyI M (M 12 0).toNat (fun l => (M 13 l).toNat) := by
  have hB := h.1
  refine ⟨hB, by have := hB.2.2; omega, by have := hB.2.2; omega, fun l hl => ?_, fun q hq hl => ?_⟩
  · have := hB.1 l (by have := hB.2.2; omega)
    exact ⟨show M 13 l = (((M 13 l).toNat : Nat) : Int) by omega, h.2.1 l (by omega)⟩
  · refine Classical.byContradiction fun z => ?_
    obtain ⟨l, l1, l2, l3⟩ := GI_in h z
    exact hl l (by omega) (show (M 13 l).toNat = q by omega)
/-- one more -/
theorem slF_keep {M M' : Mem} {q s' : Nat} (hs' : M 14 s' = 1023) (h14 : ∀ s, s ≠ s' → M' 14 s = M 14 s) (h13 : ∀ s, s < 2048 → M 14 s ≠ 1023 → M' 13 (M 14 s).toNat = M 13 (M 14 s).toNat) : ∀ c s, s < 2048 → M 14 (slF M q c s) ≠ 1023 → slF M' q c s = slF M q c s
  | 0, s, _, _ => rfl
  | c + 1, s, hs, h => by
    unfold slF at h ⊢
    by_cases z : M 14 s = 1023
    · rw [if_pos (Or.inl z)] at h; exact absurd z h
    · have e : M' 14 s = M 14 s := h14 s (fun e => z (by rw [e]; exact hs'))
      rw [e, h13 s hs z]
      by_cases y : M 14 s = 1023 ∨ M 13 (M 14 s).toNat = (q : Int)
      · rw [if_pos y, if_pos y]
      · rw [if_neg y] at h ⊢
        rw [if_neg y]
        exact slF_keep hs' h14 h13 c _ (Nat.mod_lt _ (by omega)) h
theorem slF_new {M M' : Mem} {q s' : Nat} {v : Int} (hv : M' 14 s' = v) (hq : M' 13 v.toNat = (q : Int)) (hs' : M 14 s' = 1023) (h14 : ∀ s, s ≠ s' → M' 14 s = M 14 s) (h13 : ∀ s, s < 2048 → M 14 s ≠ 1023 → M' 13 (M 14 s).toNat = M 13 (M 14 s).toNat) : ∀ c s, s < 2048 → slF M q c s = s' → slF M' q c s = s'
  | 0, s, _, h => h
  | c + 1, s, hs, h => by
    unfold slF at h ⊢
    by_cases z : s = s'
    · subst z
      rw [if_pos (Or.inr (by rw [hv]; exact hq))]
    · rw [h14 s z]
      by_cases z0 : M 14 s = 1023
      · rw [if_pos (Or.inl z0)] at h; exact absurd h z
      · rw [h13 s hs z0]
        by_cases y : M 14 s = 1023 ∨ M 13 (M 14 s).toNat = (q : Int)
        · rw [if_pos y] at h; exact absurd h z
        · rw [if_neg y] at h ⊢
          exact slF_new hv hq hs' h14 h13 c _ (Nat.mod_lt _ (by omega)) h
theorem congr_enc {f g : Nat → Nat} (h : ∀ i, i < 6 → f i = g i) : enc f = enc g := by
  unfold enc
  rw [h 0 (by omega), h 1 (by omega), h 2 (by omega), h 3 (by omega), h 4 (by omega), h 5 (by omega)]
def inL (M : Mem) (q : Nat) : Prop := ∃ l : Nat, (l : Int) < M 12 0 ∧ M 13 l = (q : Int)
def exL (M M' : Mem) : Prop := M 12 0 ≤ M' 12 0 ∧ (∀ l : Nat, (l : Int) < M 12 0 → M' 13 l = M 13 l) ∧ ∀ a, a ≠ 12 → a ≠ 13 → a ≠ 14 → ∀ b, M' a b = M a b
theorem exL.refl {M : Mem} : exL M M := ⟨Int.le_refl _, fun _ _ => rfl, fun _ _ _ _ _ => rfl⟩
theorem exL.trans {M M' M'' : Mem} (h : exL M M') (h' : exL M' M'') : exL M M'' := ⟨Int.le_trans h.1 h'.1, fun l hl => (h'.2.1 l (Int.lt_of_lt_of_le hl h.1)).trans (h.2.1 l hl), fun a h1 h2 h3 b => (h'.2.2 a h1 h2 h3 b).trans (h.2.2 a h1 h2 h3 b)⟩
theorem inL_ex {M M' : Mem} {q : Nat} (h : exL M M') (hq : inL M q) : inL M' q := by
  obtain ⟨l, l1, l2⟩ := hq
  exact ⟨l, Int.lt_of_lt_of_le l1 h.1, (h.2.1 l l1).trans l2⟩
theorem dgf_inj {a b : Nat} (ha : a < 262144) (hb : b < 262144) (h : ∀ i, i < 6 → dgf a i = dgf b i) : a = b := by
  rw [← enc_dgf ha, ← enc_dgf hb]
  unfold enc
  rw [h 0 (by omega), h 1 (by omega), h 2 (by omega), h 3 (by omega), h 4 (by omega), h 5 (by omega)]
theorem GI_add {n : Nat} {f0 : Nat → Nat} {M : Mem} (hn : n ≤ 6) (h : GI n f0 M) {q : Nat} (hq : q < 262144) (hA : AR n f0 (dgf q)) : GI n f0 (addM M q) ∧ inL (addM M q) q ∧ exL M (addM M q) := by
  have hB := h.1
  by_cases hz : numO M q = 1023
  · have hroom : M 12 0 < 720 := by
      refine Classical.byContradiction fun z => ?_
      have h720 : M 12 0 = 720 := by have := hB.2.2; omega
      have hval : ∀ k, k < 720 → 0 ≤ M 13 k ∧ M 13 k < 262144 := hB.1
      have key : ∀ k, k < 720 → M 13 k ≠ (q : Int) := fun k hk e => by
        have := h.2.1 k (by omega)
        rw [e, show ((q : Nat) : Int).toNat = q by omega, hz] at this
        omega
      have := AR_720 (m := 721) (f0 := f0) hn (fun k => if k < 720 then dgf (M 13 k).toNat else dgf q) (fun k hk => by
        by_cases y : k < 720
        · rw [if_pos y]; exact h.2.2.2.2 k (by omega)
        · rw [if_neg y]; exact hA) (fun a b ha hb e => by
        by_cases ya : a < 720 <;> by_cases yb : b < 720
        · simp only [if_pos ya, if_pos yb] at e
          have va := hval a ya
          have vb := hval b yb
          have := dgf_inj (by omega) (by omega) e
          have p1 := h.2.1 a (by omega)
          have p2 := h.2.1 b (by omega)
          rw [this, p2] at p1
          omega
        · simp only [if_pos ya, if_neg yb] at e
          have va := hval a ya
          have := dgf_inj (by omega) hq e
          exact absurd (by omega) (key a ya)
        · simp only [if_neg ya, if_pos yb] at e
          have vb := hval b yb
          have := dgf_inj hq (by omega) e
          exact absurd (by omega) (key b yb)
        · omega)
      omega
    have hB' := addM_B hB hq
    unfold addM at hB' ⊢
    rw [if_pos ⟨hz, hroom⟩] at hB' ⊢
    have hNr := hB.2.2
    obtain ⟨N, hN⟩ : ∃ N : Nat, M 12 0 = (N : Int) := ⟨(M 12 0).toNat, by omega⟩
    rw [hN] at hB' ⊢
    rw [show ((N : Nat) : Int).toNat = N by omega] at hB' ⊢
    have hsl := sltO_lt (M := M) (q := q)
    have hse : M 14 (sltO M q) = 1023 := hz
    have e12 : upM (upM (upM M 14 (sltO M q) N) 13 N q) 12 0 ((N : Int) + 1) 12 0 = (N : Int) + 1 := upM_self _ _ _ _
    have e13 : ∀ l, l ≠ N → upM (upM (upM M 14 (sltO M q) N) 13 N q) 12 0 ((N : Int) + 1) 13 l = M 13 l := fun l hl => by rw [upM_ne (by omega), upM_nej hl, upM_ne (by omega)]
    have e13N : upM (upM (upM M 14 (sltO M q) N) 13 N q) 12 0 ((N : Int) + 1) 13 N = (q : Int) := by rw [upM_ne (by omega), upM_self]
    have e14 : ∀ s, s ≠ sltO M q → upM (upM (upM M 14 (sltO M q) N) 13 N q) 12 0 ((N : Int) + 1) 14 s = M 14 s := fun s hs => by rw [upM_ne (by omega), upM_ne (by omega), upM_nej hs]
    have e14N : upM (upM (upM M 14 (sltO M q) N) 13 N q) 12 0 ((N : Int) + 1) 14 (sltO M q) = (N : Int) := by rw [upM_ne (by omega), upM_ne (by omega), upM_self]
    have hk13 : ∀ s, s < 2048 → M 14 s ≠ 1023 → upM (upM (upM M 14 (sltO M q) N) 13 N q) 12 0 ((N : Int) + 1) 13 (M 14 s).toNat = M 13 (M 14 s).toNat := fun s hs hne => e13 _ (by have := h.2.2.1 s hs; omega)
    have hex : exL M (upM (upM (upM M 14 (sltO M q) N) 13 N q) 12 0 ((N : Int) + 1)) := ⟨by rw [e12]; omega, fun l hl => e13 l (by omega), fun a h1 h2 h3 b => by rw [upM_ne h1, upM_ne h2, upM_ne h3]⟩
    generalize upM (upM (upM M 14 (sltO M q) N) 13 N q) 12 0 ((N : Int) + 1) = M' at hB' e12 e13 e13N e14 e14N hk13 hex ⊢
    refine ⟨⟨hB', fun l hl => ?_, fun s hs => ?_, fun s s' hs hs' e he => ?_, fun l hl => ?_⟩, ⟨N, by rw [e12]; omega, e13N⟩, hex⟩
    · rw [e12] at hl
      by_cases y : l = N
      · subst y
        rw [e13N, show ((q : Nat) : Int).toNat = q by omega]
        unfold numO
        have : sltO M' q = sltO M q := slF_new (v := (l : Int)) e14N (by rw [show ((l : Nat) : Int).toNat = l by omega]; exact e13N) hse e14 hk13 2048 (hsh q) (hsh_lt q) rfl
        rw [this]; exact e14N
      · rw [e13 l y]
        have p1 := h.2.1 l (by omega)
        unfold numO at p1 ⊢
        have hne : sltO M (M 13 l).toNat ≠ sltO M q := fun z => by rw [z, hse] at p1; omega
        have p2 : sltO M' (M 13 l).toNat = sltO M (M 13 l).toNat := slF_keep hse e14 hk13 2048 _ (hsh_lt _) (by
          have p3 : M 14 (slF M (M 13 l).toNat 2048 (hsh (M 13 l).toNat)) = (l : Int) := p1
          rw [p3]; omega)
        rw [p2, e14 _ hne]
        exact p1
    · by_cases y : s = sltO M q
      · rw [y, e14N, e12]; omega
      · rw [e14 s y, e12]; have := h.2.2.1 s hs; omega
    · by_cases y : s = sltO M q <;> by_cases y' : s' = sltO M q
      · omega
      · rw [y, e14N, e14 s' y'] at e
        have := h.2.2.1 s' hs'
        omega
      · rw [y', e14N, e14 s y] at e
        have := h.2.2.1 s hs
        omega
      · rw [e14 s y] at he e
        rw [e14 s' y'] at e
        exact h.2.2.2.1 s s' hs hs' e he
    · rw [e12] at hl
      by_cases y : l = N
      · subst y
        rw [e13N, show ((q : Nat) : Int).toNat = q by omega]; exact hA
      · rw [e13 l y]; exact h.2.2.2.2 l (by omega)
  · unfold addM
    rw [if_neg (fun z => hz z.1)]
    obtain ⟨l, l1, l2, l3⟩ := GI_in h hz
    exact ⟨h, ⟨l, l1, l3⟩, exL.refl⟩
def swIn (n : Nat) (M : Mem) (k i j : Nat) : Prop := inL M (enc (sw (dgf (M 13 k).toNat) i j))
theorem GI_J {n : Nat} {f0 : Nat → Nat} (hn : n ≤ 6) {k i : Nat} (hi : i < n) : ∀ c j (M : Mem), GI n f0 M → (k : Int) < M 12 0 → i < j → j + c ≤ n → GI n f0 (gJ k i c j M) ∧ exL M (gJ k i c j M) ∧ ∀ j', j ≤ j' → j' < j + c → swIn n (gJ k i c j M) k i j'
  | 0, j, M, h, hk, _, _ => ⟨h, exL.refl, fun j' h1 h2 => by omega⟩
  | c + 1, j, M, h, hk, hj, hc => by
    unfold gJ
    have hv := h.1.1 k (by have := h.1.2.2; omega)
    obtain ⟨a1, a2, a3⟩ := GI_add hn h (q := enc (sw (dgf (M 13 k).toNat) i j)) (enc_lt (sw_lo (dgf_lo _))) (AR_congr hn (AR_sw (h.2.2.2.2 k hk) hi (by omega)) (fun x hx => dgf_enc (sw_lo (dgf_lo _)) hx))
    obtain ⟨b1, b2, b3⟩ := GI_J hn hi (k := k) c (j + 1) _ a1 (Int.lt_of_lt_of_le hk a3.1) (by omega) (by omega)
    refine ⟨b1, a3.trans b2, fun j' h1 h2 => ?_⟩
    rcases Nat.lt_or_ge j j' with z | z
    · exact b3 j' (by omega) (by omega)
    · have : j' = j := by omega
      subst this
      unfold swIn
      rw [(a3.trans b2).2.1 k hk]
      exact inL_ex b2 a2
theorem GI_I {n : Nat} {f0 : Nat → Nat} (hn : n ≤ 6) {k : Nat} : ∀ c i (M : Mem), GI n f0 M → (k : Int) < M 12 0 → i + c ≤ n → GI n f0 (gI n k c i M) ∧ exL M (gI n k c i M) ∧ ∀ i' j', i ≤ i' → i' < i + c → i' < j' → j' < n → swIn n (gI n k c i M) k i' j'
  | 0, i, M, h, hk, _ => ⟨h, exL.refl, fun i' j' h1 h2 => by omega⟩
  | c + 1, i, M, h, hk, hc => by
    unfold gI
    obtain ⟨a1, a2, a3⟩ := GI_J hn (k := k) (i := i) (by omega) (n - (i + 1)) (i + 1) M h hk (by omega) (by omega)
    obtain ⟨b1, b2, b3⟩ := GI_I hn (k := k) c (i + 1) _ a1 (Int.lt_of_lt_of_le hk a2.1) (by omega)
    refine ⟨b1, a2.trans b2, fun i' j' h1 h2 h3 h4 => ?_⟩
    rcases Nat.lt_or_ge i i' with z | z
    · exact b3 i' j' (by omega) (by omega) h3 h4
    · have : i' = i := by omega
      subst this
      have := a3 j' (by omega) (by omega)
      unfold swIn at this ⊢
      rw [b2.2.1 k (Int.lt_of_lt_of_le hk a2.1)]
      exact inL_ex b2 this
theorem GI_K {n : Nat} {f0 : Nat → Nat} (hn : n ≤ 6) : ∀ c k (M : Mem), GI n f0 M → k + c = 720 → (∀ k' i j, k' < k → i < j → j < n → swIn n M k' i j) → (k : Int) ≤ M 12 0 → GI n f0 (gK n c k M) ∧ exL M (gK n c k M) ∧ ∀ (k' : Nat) i j, (k' : Int) < gK n c k M 12 0 → i < j → j < n → swIn n (gK n c k M) k' i j
  | 0, k, M, h, hk, hs, hl => ⟨h, exL.refl, fun k' i j h1 h2 h3 => hs k' i j (by have := h.1.2.2; unfold gK at h1; omega) h2 h3⟩
  | c + 1, k, M, h, hk, hs, hl => by
    unfold gK
    by_cases z : (k : Int) < M 12 0
    · rw [if_pos z]
      obtain ⟨a1, a2, a3⟩ := GI_I hn (k := k) n 0 M h z (by omega)
      obtain ⟨b1, b2, b3⟩ := GI_K hn c (k + 1) _ a1 (by omega) (fun k' i j h1 h2 h3 => by
        rcases Nat.lt_or_ge k' k with y | y
        · have := hs k' i j y h2 h3
          unfold swIn at this ⊢
          rw [a2.2.1 k' (by omega)]
          exact inL_ex a2 this
        · have : k' = k := by omega
          subst this
          exact a3 i j (by omega) (by omega) h2 h3) (by have := a2.1; omega)
      exact ⟨b1, a2.trans b2, b3⟩
    · rw [if_neg z]
      exact ⟨h, exL.refl, fun k' i j h1 h2 h3 => hs k' i j (by omega) h2 h3⟩
/-- all of them -/
theorem sw_all {n : Nat} {f0 : Nat → Nat} {M : Mem} (hn : n ≤ 6) (h : GI n f0 M) (hs : ∀ (k' : Nat) i j, (k' : Int) < M 12 0 → i < j → j < n → swIn n M k' i j) (h0 : inL M (enc f0)) (hf0 : lo8 f0) (hA0 : AR n f0 f0) {g : Nat → Nat} (hg : lo8 g) (hA : AR n f0 g) : inL M (enc g) := by
  have key : ∀ m, m ≤ n → ∃ f, lo8 f ∧ AR n f0 f ∧ inL M (enc f) ∧ ∀ i, i < m → f i = g i := by
    intro m
    induction m with
    | zero => exact fun _ => ⟨f0, hf0, hA0, h0, fun i hi => by omega⟩
    | succ m ih =>
      intro hm
      obtain ⟨f, hf, hAf, hIf, he⟩ := ih (by omega)
      by_cases z : f m = g m
      · exact ⟨f, hf, hAf, hIf, fun i hi => by
          rcases Nat.lt_or_ge i m with y | y
          · exact he i y
          · rw [show i = m by omega]; exact z⟩
      · have hc : ∃ j, j < n ∧ m < j ∧ f j = g m := by
          refine Classical.byContradiction fun y => ?_
          have hlt : ∀ d, cnt n f d = cnt n g d := fun d => by rw [hAf.2, hA.2]
          have e : ∀ c, m + 1 + c ≤ n → cnt (m + 1 + c) f (g m) + 1 ≤ cnt (m + 1 + c) g (g m) := by
            intro c
            induction c with
            | zero =>
              intro _
              show cnt m f (g m) + (if f m = g m then 1 else 0) + 1 ≤ cnt m g (g m) + (if g m = g m then 1 else 0)
              rw [if_neg z, if_pos rfl, cnt_congr m he]
              omega
            | succ c ihc =>
              intro hc
              have := ihc (by omega)
              show cnt (m + 1 + c) f (g m) + (if f (m + 1 + c) = g m then 1 else 0) + 1 ≤ cnt (m + 1 + c) g (g m) + (if g (m + 1 + c) = g m then 1 else 0)
              rw [if_neg (fun q => y ⟨m + 1 + c, by omega, by omega, q⟩)]
              omega
          have := e (n - (m + 1)) (by omega)
          rw [show m + 1 + (n - (m + 1)) = n by omega, hlt] at this
          omega
        obtain ⟨j, j1, j2, j3⟩ := hc
        obtain ⟨l, l1, l2⟩ := hIf
        have hsw := hs l m j l1 j2 j1
        unfold swIn at hsw
        rw [l2, show ((enc f : Nat) : Int).toNat = enc f by omega] at hsw
        have hse : enc (sw (dgf (enc f)) m j) = enc (sw f m j) := by
          refine congr_enc (fun i hi => ?_)
          unfold sw ud
          rw [dgf_enc hf (show j < 6 by omega), dgf_enc hf (show m < 6 by omega), dgf_enc hf hi]
        rw [hse] at hsw
        refine ⟨sw f m j, sw_lo hf, AR_sw hAf (by omega) j1, hsw, fun i hi => ?_⟩
        unfold sw ud
        rw [if_neg (by omega)]
        by_cases y : i = m
        · rw [if_pos y, y]; exact j3
        · rw [if_neg y]; exact he i (by omega)
  obtain ⟨f, hf, hAf, hIf, he⟩ := key n (Nat.le_refl _)
  have : enc g = enc f := congr_enc (fun i hi => by
    rcases Nat.lt_or_ge i n with y | y
    · exact (he i y).symm
    · rw [hA.1 i y hi, hAf.1 i y hi])
  rw [this]; exact hIf
