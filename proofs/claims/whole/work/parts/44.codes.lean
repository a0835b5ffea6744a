/-! the reference's codes -/
def injN (n : Nat) (f : Nat → Nat) : Prop := ∀ i j, i < n → j < n → f i ≠ 7 → f i = f j → i = j
theorem cnt_ge2 {f : Nat → Nat} {d : Nat} : ∀ n i j, i < j → j < n → f i = d → f j = d → 2 ≤ cnt n f d
  | 0, i, j, h1, h2, _, _ => by omega
  | n + 1, i, j, h1, h2, e1, e2 => by
    unfold cnt
    by_cases q : j = n
    · subst q
      have := (cnt_pos (f := f) (d := d) j).mpr ⟨i, h1, e1⟩
      rw [if_pos e2]; omega
    · have := cnt_ge2 (f := f) (d := d) n i j h1 (by omega) e1 e2
      omega
theorem cnt_le1 {f : Nat → Nat} {d : Nat} : ∀ n, (∀ i j, i < n → j < n → f i = d → f j = d → i = j) → cnt n f d ≤ 1
  | 0, _ => by unfold cnt; omega
  | n + 1, h => by
    have ih := cnt_le1 (f := f) (d := d) n (fun i j hi hj => h i j (by omega) (by omega))
    unfold cnt
    by_cases q : f n = d
    · rw [if_pos q]
      have : cnt n f d = 0 := by
        refine Classical.byContradiction fun z => ?_
        obtain ⟨i, hi, e⟩ := (cnt_pos n).mp z
        have := h i n (by omega) (by omega) e q
        omega
      omega
    · rw [if_neg q]; omega
theorem AR_inj {n : Nat} {f0 f : Nat → Nat} (h0 : ∀ i j, f0 i ≠ 7 → f0 i = f0 j → i = j) (h : AR n f0 f) : injN n f := by
  intro i j hi hj h7 e
  rcases Nat.lt_trichotomy i j with q | q | q
  · have a := cnt_ge2 (f := f) (d := f i) n i j q hj rfl e.symm
    rw [h.2] at a
    have b := cnt_le1 (f := f0) (d := f i) n (fun x y _ _ ex ey => h0 x y (by omega) (by omega))
    omega
  · exact q
  · have a := cnt_ge2 (f := f) (d := f i) n j i q hi e.symm rfl
    rw [h.2] at a
    have b := cnt_le1 (f := f0) (d := f i) n (fun x y _ _ ex ey => h0 x y (by omega) (by omega))
    omega
/-- the seat of a dish -/
def seN (f : Nat → Nat) (d : Nat) : Nat → Int
  | 0 => -1
  | g + 1 => if f g = d then (g : Int) else seN f d g
def sdN (f : Nat → Nat) (d : Nat) : Nat → Nat
  | 0 => 0
  | g + 1 => sdN f d g + (if f g = d then g else 0)
def cdF (f : Nat → Nat) : Nat → Nat
  | 0 => 0
  | g + 1 => cdF f g + (if f g = 7 then 0 else g * 6 ^ f g)
theorem cd_sum {f : Nat → Nat} : ∀ n, lieN n f → cdF f n = sdN f 0 n + 6 * sdN f 1 n + 36 * sdN f 2 n + 216 * sdN f 3 n + 1296 * sdN f 4 n + 7776 * sdN f 5 n
  | 0, _ => rfl
  | n + 1, h => by
    have ih := cd_sum (f := f) n (fun g hg => h g (by omega))
    have hn := h n (by omega)
    unfold cdF sdN
    rw [ih]
    rcases (by omega : f n = 0 ∨ f n = 1 ∨ f n = 2 ∨ f n = 3 ∨ f n = 4 ∨ f n = 5 ∨ f n = 7) with e | e | e | e | e | e | e <;> rw [e] <;> simp <;> omega
theorem sd_no {f : Nat → Nat} {d : Nat} : ∀ n, (∀ g, g < n → f g ≠ d) → sdN f d n = 0
  | 0, _ => rfl
  | n + 1, h => by unfold sdN; rw [sd_no n (fun g hg => h g (by omega)), if_neg (h n (by omega))]
theorem sd_at {f : Nat → Nat} {d g : Nat} : ∀ n, g < n → f g = d → (∀ i, i < n → f i = d → i = g) → sdN f d n = g
  | 0, h, _, _ => by omega
  | n + 1, h, e, hu => by
    unfold sdN
    by_cases q : g = n
    · subst q
      rw [if_pos e, sd_no g (fun i hi ei => by have := hu i (by omega) ei; omega)]; omega
    · rw [sd_at n (by omega) e (fun i hi => hu i (by omega)), if_neg (fun z => by have := hu n (by omega) z; omega)]; omega
theorem se_no {f : Nat → Nat} {d : Nat} : ∀ n, (∀ g, g < n → f g ≠ d) → seN f d n = -1
  | 0, _ => rfl
  | n + 1, h => by unfold seN; rw [if_neg (h n (by omega)), se_no n (fun g hg => h g (by omega))]
theorem se_at {f : Nat → Nat} {d g : Nat} : ∀ n, g < n → f g = d → (∀ i, i < n → f i = d → i = g) → seN f d n = (g : Int)
  | 0, h, _, _ => by omega
  | n + 1, h, e, hu => by
    unfold seN
    by_cases q : f n = d
    · rw [if_pos q, hu n (by omega) q]
    · rw [if_neg q]
      have : g ≠ n := fun z => q (by rw [← z]; exact e)
      exact se_at n (by omega) e (fun i hi => hu i (by omega))
theorem sd_le {f : Nat → Nat} {d n : Nat} (hn : n ≤ 6) (hi : injN n f) (hd : d < 6) : sdN f d n ≤ 5 := by
  by_cases h : ∃ g, g < n ∧ f g = d
  · obtain ⟨g, hg, e⟩ := h
    rw [sd_at n hg e (fun i hi' ei => hi i g hi' hg (by omega) (by omega))]; omega
  · rw [sd_no n (fun g hg e => h ⟨g, hg, e⟩)]; omega
theorem cd_dig {f : Nat → Nat} {d n : Nat} (hn : n ≤ 6) (hl : lieN n f) (hi : injN n f) (hd : d < 6) : cdF f n / 6 ^ d % 6 = sdN f d n := by
  have h0 := sd_le (d := 0) hn hi (by omega)
  have h1 := sd_le (d := 1) hn hi (by omega)
  have h2 := sd_le (d := 2) hn hi (by omega)
  have h3 := sd_le (d := 3) hn hi (by omega)
  have h4 := sd_le (d := 4) hn hi (by omega)
  have h5 := sd_le (d := 5) hn hi (by omega)
  rw [cd_sum n hl]
  rcases (by omega : d = 0 ∨ d = 1 ∨ d = 2 ∨ d = 3 ∨ d = 4 ∨ d = 5) with e | e | e | e | e | e <;> subst e <;> simp <;> omega
theorem cd_lt {f : Nat → Nat} {n : Nat} (hn : n ≤ 6) (hl : lieN n f) (hi : injN n f) : cdF f n < 46656 := by
  have h0 := sd_le (d := 0) hn hi (by omega)
  have h1 := sd_le (d := 1) hn hi (by omega)
  have h2 := sd_le (d := 2) hn hi (by omega)
  have h3 := sd_le (d := 3) hn hi (by omega)
  have h4 := sd_le (d := 4) hn hi (by omega)
  have h5 := sd_le (d := 5) hn hi (by omega)
  rw [cd_sum n hl]
  omega
def thF (f : Nat → Nat) : Nat → Nat
  | 0 => 0
  | g + 1 => thF f g ||| (if f g = 7 then 0 else 2 ^ f g)
theorem th_lt {f : Nat → Nat} : ∀ n, lieN n f → thF f n < 64
  | 0, _ => by unfold thF; omega
  | n + 1, h => by
    unfold thF
    refine Nat.or_lt_two_pow (n := 6) (th_lt n (fun g hg => h g (by omega))) ?_
    split
    · omega
    · rcases h n (by omega) with q | q
      · exact Nat.lt_of_lt_of_le (Nat.pow_lt_pow_right (by omega) q) (by decide)
      · omega
theorem th_tb {f : Nat → Nat} {d : Nat} (hd : d < 6) : ∀ n, ((thF f n).testBit d = true ↔ ∃ g, g < n ∧ f g = d)
  | 0 => by unfold thF; rw [Nat.zero_testBit]; exact ⟨fun h => (by cases h), fun ⟨g, h, _⟩ => by omega⟩
  | n + 1 => by
    unfold thF
    rw [Nat.testBit_or, Bool.or_eq_true, th_tb hd n]
    have key : ((if f n = 7 then 0 else 2 ^ f n).testBit d = true ↔ f n = d) := by
      by_cases z : f n = 7
      · rw [if_pos z, Nat.zero_testBit]; exact ⟨fun h => (by cases h), fun h => by omega⟩
      · rw [if_neg z, Nat.testBit_two_pow]; simp
    rw [key]
    constructor
    · rintro (⟨g, h1, h2⟩ | h)
      · exact ⟨g, by omega, h2⟩
      · exact ⟨n, by omega, h⟩
    · rintro ⟨g, h1, h2⟩
      rcases Nat.lt_or_ge g n with q | q
      · exact Or.inl ⟨g, q, h2⟩
      · right; rw [show n = g by omega]; exact h2
theorem th_AR {n : Nat} {f0 f : Nat → Nat} (hl0 : lieN n f0) (hl : lieN n f) (h : AR n f0 f) : thF f n = thF f0 n := by
  apply Nat.eq_of_testBit_eq
  intro d
  by_cases hd : d < 6
  · have key : (thF f n).testBit d = true ↔ (thF f0 n).testBit d = true := by
      rw [th_tb hd, th_tb hd, ← cnt_pos, ← cnt_pos, h.2]
    cases h1 : (thF f n).testBit d <;> cases h2 : (thF f0 n).testBit d
    · rfl
    · rw [h1, h2] at key; exact absurd (key.mpr rfl) (by decide)
    · rw [h1, h2] at key; exact absurd (key.mp rfl) (by decide)
    · rfl
  · have p : 2 ^ 6 ≤ 2 ^ d := Nat.pow_le_pow_right (by omega) (by omega)
    rw [Nat.testBit_lt_two_pow (Nat.lt_of_lt_of_le (th_lt n hl) (by omega)), Nat.testBit_lt_two_pow (Nat.lt_of_lt_of_le (th_lt n hl0) (by omega))]
/-- codes tell arrangements apart -/
theorem cd_inj {n : Nat} {f0 f g : Nat → Nat} (hn : n ≤ 6) (h0 : ∀ i j, f0 i ≠ 7 → f0 i = f0 j → i = j) (hl : lieN n f) (hl' : lieN n g) (h : AR n f0 f) (h' : AR n f0 g) (e : cdF f n = cdF g n) : ∀ i, i < 6 → f i = g i := by
  have hf := AR_inj h0 h
  have hg := AR_inj h0 h'
  have half : ∀ (f g : Nat → Nat), lieN n f → lieN n g → AR n f0 f → AR n f0 g → injN n f → injN n g → cdF f n = cdF g n → ∀ i, i < n → f i ≠ 7 → g i = f i := by
    intro f g hl hl' h h' hf hg e i hi h7
    have hd : f i < 6 := by rcases hl i hi with q | q; exact q; exact absurd q h7
    have a := cd_dig hn hl hf hd
    have b := cd_dig hn hl' hg hd
    rw [e, b] at a
    rw [sd_at n hi rfl (fun x hx ex => hf x i hx hi (by omega) (by omega))] at a
    have hp := (cnt_pos (f := f) (d := f i) n).mpr ⟨i, hi, rfl⟩
    rw [h.2, ← h'.2] at hp
    obtain ⟨x, hx, ex⟩ := (cnt_pos n).mp hp
    rw [sd_at n hx ex (fun y hy ey => hg y x hy hx (by omega) (by omega))] at a
    have : x = i := by omega
    subst this
    exact ex
  intro i hi
  rcases Nat.lt_or_ge i n with q | q
  · by_cases h7 : f i = 7
    · by_cases h7' : g i = 7
      · rw [h7, h7']
      · have := half g f hl' hl h' h hg hf e.symm i q h7'
        omega
    · exact (half f g hl hl' h h' hf hg e i q h7).symm
  · rw [h.1 i q hi, h'.1 i q hi]
