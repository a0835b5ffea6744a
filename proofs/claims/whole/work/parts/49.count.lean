/-! how many bits -/
theorem l_u' : ∀ n, n < 64 → (((nI n).toInt64.toUInt64 &&& Int64.toUInt64 63).toBitVec % 64).toNat = n := by decide +kernel
theorem lUsh_n {n s : Nat} (hn : n < 2 ^ 63) (hs : s < 64) : lUsh n s = ((n / 2 ^ s : Nat) : Int) := by
  unfold lUsh
  have h1 : n / 2 ^ s ≤ n := Nat.div_le_self _ _
  have hx := l_u' s hs
  rw [i64_N n hn, i32_N s (by omega)]
  generalize ((nI s).toInt64.toUInt64 &&& Int64.toUInt64 63) = x at hx
  have h3 : ((lN n).toUInt64 >>> x).toInt64 = lN (n / 2 ^ s) := by
    apply Int64.toBitVec_inj.1
    show ((lN n).toUInt64 >>> x).toBitVec = BitVec.ofNat 64 (n / 2 ^ s)
    rw [UInt64.toBitVec_shiftRight]
    apply BitVec.eq_of_toNat_eq
    rw [BitVec.ushiftRight_eq', BitVec.toNat_ushiftRight, hx]
    show (BitVec.ofNat 64 n).toNat >>> s = _
    rw [BitVec.toNat_ofNat, BitVec.toNat_ofNat, Nat.mod_eq_of_lt (by omega), Nat.mod_eq_of_lt (by omega), Nat.shiftRight_eq_div_pow]
  rw [h3, pk_lT (by omega)]
theorem bAnd_mask7 (a : Nat) : bAnd a 127 = ((a % 128 : Nat) : Int) := by
  unfold bAnd
  rw [i32_Na, show Int32.ofInt 127 = nI 127 from by decide, nx_and', show (127 : Nat) = 2 ^ 7 - 1 by rfl, Nat.and_two_pow_sub_one_eq_mod, nI_toInt (by omega)]
def pcN (n : Nat) : Nat → Nat
  | 0 => 0
  | k + 1 => pcN n k + (if n.testBit k = true then 1 else 0)
theorem pc_congr {a b : Nat} : ∀ k, (∀ j, j < k → a.testBit j = b.testBit j) → pcN a k = pcN b k
  | 0, _ => rfl
  | k + 1, h => by unfold pcN; rw [pc_congr k (fun j hj => h j (by omega)), h k (by omega)]
theorem pc_hi {a n : Nat} (h : a < 2 ^ n) : ∀ k, pcN a (n + k) = pcN a n
  | 0 => rfl
  | k + 1 => by
    show pcN a (n + k) + (if a.testBit (n + k) = true then 1 else 0) = _
    rw [pc_hi h k, Nat.testBit_lt_two_pow (Nat.lt_of_lt_of_le h (Nat.pow_le_pow_right (by omega) (by omega)))]
    rfl
theorem pc_by {h l : Nat} (hl : l < 256) : ∀ k, pcN (256 * h + l) (8 + k) = pcN l 8 + pcN h k
  | 0 => by
    refine (pc_congr 8 (fun j hj => ?_)).trans rfl
    have := Nat.testBit_two_pow_mul_add h (show l < 2 ^ 8 by omega) j
    rw [if_pos hj] at this
    exact this
  | k + 1 => by
    show pcN (256 * h + l) (8 + k) + (if (256 * h + l).testBit (8 + k) = true then 1 else 0) = pcN l 8 + (pcN h k + (if h.testBit k = true then 1 else 0))
    rw [pc_by hl k]
    have := Nat.testBit_two_pow_mul_add h (show l < 2 ^ 8 by omega) (8 + k)
    rw [if_neg (by omega), show 8 + k - 8 = k by omega] at this
    rw [show (256 * h + l).testBit (8 + k) = h.testBit k from this]
    omega
def byN5 (b : Nat → Nat) : Nat → Nat → Nat
  | 0, _ => 0
  | j + 1, i => 256 * byN5 b j (i + 1) + b i
def mkN (v : Nat) : Nat → Nat
  | 0 => 0
  | j + 1 => 256 * mkN v j + v
def pb1 (l : Nat) : Nat := l - (l / 2 &&& 85)
def pb2 (l : Nat) : Nat := (l &&& 51) + (l / 4 &&& 51)
def pb3 (l : Nat) : Nat := l % 16 + l / 16
theorem qb1 : ∀ l, l < 256 → ∀ b, b < 2 → ((128 * b + l / 2) &&& 85) = (l / 2 &&& 85) := by decide +kernel
theorem qb2 : ∀ l, l < 256 → ∀ b, b < 4 → ((64 * b + l / 4) &&& 51) = (l / 4 &&& 51) := by decide +kernel
theorem qb4 : ∀ l, l < 256 → (pb1 l < 256 ∧ pb2 (pb1 l) < 256 ∧ pb2 (pb1 l) / 16 ≤ 4 ∧ pb2 (pb1 l) % 16 ≤ 4 ∧ pb3 (pb2 (pb1 l)) = pcN l 8 ∧ pcN l 8 ≤ 8) := by decide +kernel
theorem sb1 {b : Nat → Nat} {e : Nat} (hb : ∀ t, b t < 256) : ∀ j i, byN5 b j i - ((byN5 b j i / 2) &&& mkN 85 (e + j)) = byN5 (fun t => pb1 (b t)) j i
  | 0, _ => by simp [byN5]
  | j + 1, i => by
    have ih := sb1 (e := e) hb j (i + 1)
    have hq := qb1 (b i) (hb i) (byN5 b j (i + 1) % 2) (by omega)
    have hl := hb i
    show 256 * byN5 b j (i + 1) + b i - (((256 * byN5 b j (i + 1) + b i) / 2) &&& (256 * mkN 85 (e + j) + 85)) = 256 * byN5 (fun t => pb1 (b t)) j (i + 1) + pb1 (b i)
    rw [← ih]
    generalize byN5 b j (i + 1) = h at *
    generalize mkN 85 (e + j) = m at *
    have h1 : (256 * h + b i) / 2 = 2 ^ 8 * (h / 2) + (128 * (h % 2) + b i / 2) := by omega
    have h2 := sp_and (k := 8) (h1 := h / 2) (l1 := 128 * (h % 2) + b i / 2) (h2 := m) (l2 := 85) (by omega) (by omega)
    rw [h1, show 256 * m + 85 = 2 ^ 8 * m + 85 by rfl, h2, hq]
    have h3 : h / 2 &&& m ≤ h / 2 := Nat.and_le_left
    have h4 : b i / 2 &&& 85 ≤ b i / 2 := Nat.and_le_left
    unfold pb1
    omega
theorem sb2 {b : Nat → Nat} {e : Nat} (hb : ∀ t, b t < 256) : ∀ j i, (byN5 b j i &&& mkN 51 (e + j)) + ((byN5 b j i / 4) &&& mkN 51 (e + j)) = byN5 (fun t => pb2 (b t)) j i
  | 0, _ => by simp [byN5]
  | j + 1, i => by
    have ih := sb2 (e := e) hb j (i + 1)
    have hq := qb2 (b i) (hb i) (byN5 b j (i + 1) % 4) (by omega)
    have hl := hb i
    show ((256 * byN5 b j (i + 1) + b i) &&& (256 * mkN 51 (e + j) + 51)) + (((256 * byN5 b j (i + 1) + b i) / 4) &&& (256 * mkN 51 (e + j) + 51)) = 256 * byN5 (fun t => pb2 (b t)) j (i + 1) + pb2 (b i)
    rw [← ih]
    generalize byN5 b j (i + 1) = h at *
    generalize mkN 51 (e + j) = m at *
    have h1 : (256 * h + b i) / 4 = 2 ^ 8 * (h / 4) + (64 * (h % 4) + b i / 4) := by omega
    have h2 := sp_and (k := 8) (h1 := h / 4) (l1 := 64 * (h % 4) + b i / 4) (h2 := m) (l2 := 51) (by omega) (by omega)
    have h3 := sp_and (k := 8) (h1 := h) (l1 := b i) (h2 := m) (l2 := 51) (by omega) (by omega)
    rw [h1, show 256 * m + 51 = 2 ^ 8 * m + 51 by rfl, h2, hq, show 256 * h + b i = 2 ^ 8 * h + b i by rfl, h3]
    unfold pb2
    omega
theorem sb3 {b : Nat → Nat} {e : Nat} (hb : ∀ t, b t < 256 ∧ b t / 16 ≤ 4 ∧ b t % 16 ≤ 4) : ∀ j i, ((byN5 b j i + byN5 b j i / 16) &&& mkN 15 (e + j)) = byN5 (fun t => pb3 (b t)) j i ∧ byN5 b j i % 16 ≤ 4
  | 0, _ => by simp [byN5]
  | j + 1, i => by
    obtain ⟨ih, ih2⟩ := sb3 (e := e) hb j (i + 1)
    obtain ⟨hl, hl2, hl3⟩ := hb i
    refine ⟨?_, by show (256 * byN5 b j (i + 1) + b i) % 16 ≤ 4; omega⟩
    show ((256 * byN5 b j (i + 1) + b i + (256 * byN5 b j (i + 1) + b i) / 16) &&& (256 * mkN 15 (e + j) + 15)) = 256 * byN5 (fun t => pb3 (b t)) j (i + 1) + pb3 (b i)
    rw [← ih]
    generalize byN5 b j (i + 1) = h at *
    generalize mkN 15 (e + j) = m at *
    have h1 : 256 * h + b i + (256 * h + b i) / 16 = 2 ^ 8 * (h + h / 16) + (16 * (h % 16) + b i + b i / 16) := by omega
    have h2 := sp_and (k := 8) (h1 := h + h / 16) (l1 := 16 * (h % 16) + b i + b i / 16) (h2 := m) (l2 := 15) (by omega) (by omega)
    rw [h1, show 256 * m + 15 = 2 ^ 8 * m + 15 by rfl, h2]
    have h3 := Nat.and_two_pow_sub_one_eq_mod (16 * (h % 16) + b i + b i / 16) 4
    rw [show (2 : Nat) ^ 4 - 1 = 15 by rfl] at h3
    rw [h3]
    unfold pb3
    omega
theorem byN5_lt {b : Nat → Nat} (hb : ∀ t, b t < 256) (i : Nat) : byN5 b 5 i < 2 ^ 40 := by
  have h0 := hb i; have h1 := hb (i + 1); have h2 := hb (i + 1 + 1); have h3 := hb (i + 1 + 1 + 1); have h4 := hb (i + 1 + 1 + 1 + 1)
  show 256 * (256 * (256 * (256 * (256 * 0 + b (i + 1 + 1 + 1 + 1)) + b (i + 1 + 1 + 1)) + b (i + 1 + 1)) + b (i + 1)) + b i < 2 ^ 40
  omega
theorem bc_count {n : Nat} (hn : n < 2 ^ 36) : bcZ (n : Int) = (pcN n 36 : Int) := by
  obtain ⟨b, hb, hbn⟩ : ∃ b : Nat → Nat, (∀ t, b t < 256) ∧ byN5 b 5 0 = n := by
    refine ⟨fun t => if t = 0 then n % 256 else if t = 1 then n / 256 % 256 else if t = 2 then n / 65536 % 256 else if t = 3 then n / 16777216 % 256 else n / 4294967296 % 256, fun t => ?_, ?_⟩
    · dsimp only; split <;> (try split) <;> (try split) <;> (try split) <;> omega
    · show 256 * (256 * (256 * (256 * (256 * 0 + n / 4294967296 % 256) + n / 16777216 % 256) + n / 65536 % 256) + n / 256 % 256) + n % 256 = n
      omega
  have e1 := sb1 (e := 3) hb 5 0
  have hb1 : ∀ t, pb1 (b t) < 256 := fun t => (qb4 (b t) (hb t)).1
  have e2 := sb2 (e := 3) hb1 5 0
  have hb2 : ∀ t, pb2 (pb1 (b t)) < 256 ∧ pb2 (pb1 (b t)) / 16 ≤ 4 ∧ pb2 (pb1 (b t)) % 16 ≤ 4 := fun t => ⟨(qb4 (b t) (hb t)).2.1, (qb4 (b t) (hb t)).2.2.1, (qb4 (b t) (hb t)).2.2.2.1⟩
  have e3 := (sb3 (e := 3) hb2 5 0).1
  have g1 := byN5_lt hb1 0
  have g2 := byN5_lt (fun t => (hb2 t).1) 0
  have k1 : mkN 85 8 = 6148914691236517205 := by decide +kernel
  have k2 : mkN 51 8 = 3689348814741910323 := by decide +kernel
  have k3 : mkN 15 8 = 1085102592571150095 := by decide +kernel
  rw [hbn, k1] at e1
  rw [k2] at e2
  rw [k3] at e3
  have hc : (fun t => pb3 (pb2 (pb1 (b t)))) = fun t => pcN (b t) 8 := by funext t; exact (qb4 (b t) (hb t)).2.2.2.2.1
  rw [hc] at e3
  have c8 : ∀ t, pcN (b t) 8 ≤ 8 := fun t => (qb4 (b t) (hb t)).2.2.2.2.2
  have hp : pcN n 36 = pcN (b 0) 8 + (pcN (b 1) 8 + (pcN (b 2) 8 + (pcN (b 3) 8 + pcN (b 4) 8))) := by
    have h40 := pc_hi hn 4
    rw [← h40, ← hbn]
    show pcN (256 * (256 * (256 * (256 * (256 * 0 + b 4) + b 3) + b 2) + b 1) + b 0) (8 + (8 + (8 + (8 + (8 + 0))))) = _
    rw [pc_by (hb 0), pc_by (hb 1), pc_by (hb 2), pc_by (hb 3), pc_by (hb 4)]
    rfl
  unfold bcZ bc1
  have z1 : (n : Int) - lAnd (lUsh (n : Int) 1) 6148914691236517205 = ((byN5 (fun t => pb1 (b t)) 5 0 : Nat) : Int) := by
    have hu := lUsh_n (n := n) (s := 1) (by omega) (by omega)
    have ha := lAnd_n (a := n / 2 ^ 1) (b := 6148914691236517205) (by omega) (by omega)
    rw [show ((1 : Nat) : Int) = 1 by rfl] at hu
    rw [hu]
    rw [show ((6148914691236517205 : Nat) : Int) = 6148914691236517205 by rfl] at ha
    rw [ha, ← e1]
    have hle : n / 2 ^ 1 &&& 6148914691236517205 ≤ n / 2 ^ 1 := Nat.and_le_left
    rw [show n / 2 ^ 1 = n / 2 by rfl] at hle ⊢
    omega
  rw [z1]
  generalize byN5 (fun t => pb1 (b t)) 5 0 = x1 at *
  unfold bc2
  have z2 : lAnd (x1 : Int) 3689348814741910323 + lAnd (lUsh (x1 : Int) 2) 3689348814741910323 = ((byN5 (fun t => pb2 (pb1 (b t))) 5 0 : Nat) : Int) := by
    have hu := lUsh_n (n := x1) (s := 2) (by omega) (by omega)
    have ha := lAnd_n (a := x1 / 2 ^ 2) (b := 3689348814741910323) (by omega) (by omega)
    have ha2 := lAnd_n (a := x1) (b := 3689348814741910323) (by omega) (by omega)
    rw [show ((2 : Nat) : Int) = 2 by rfl] at hu
    rw [show ((3689348814741910323 : Nat) : Int) = 3689348814741910323 by rfl] at ha ha2
    rw [hu, ha, ha2, ← e2, show x1 / 2 ^ 2 = x1 / 4 by rfl]
    omega
  rw [z2]
  generalize byN5 (fun t => pb2 (pb1 (b t))) 5 0 = x2 at *
  unfold bc3
  have z3 : lAnd ((x2 : Int) + lUsh (x2 : Int) 4) 1085102592571150095 = ((byN5 (fun t => pcN (b t) 8) 5 0 : Nat) : Int) := by
    have hu := lUsh_n (n := x2) (s := 4) (by omega) (by omega)
    have hs : x2 + x2 / 2 ^ 4 < 2 ^ 63 := by omega
    have ha := lAnd_n (a := x2 + x2 / 2 ^ 4) (b := 1085102592571150095) hs (by omega)
    rw [show ((4 : Nat) : Int) = 4 by rfl] at hu
    rw [show ((1085102592571150095 : Nat) : Int) = 1085102592571150095 by rfl] at ha
    rw [hu, show ((x2 : Int) + ((x2 / 2 ^ 4 : Nat) : Int)) = ((x2 + x2 / 2 ^ 4 : Nat) : Int) by omega, ha, show x2 / 2 ^ 4 = x2 / 16 by rfl, e3]
  rw [z3]
  have d0 := c8 0; have d1 := c8 1; have d2 := c8 2; have d3 := c8 3; have d4 := c8 4
  rw [hp]
  have hx3 : byN5 (fun t => pcN (b t) 8) 5 0 = 256 * (256 * (256 * (256 * (256 * 0 + pcN (b 4) 8) + pcN (b 3) 8) + pcN (b 2) 8) + pcN (b 1) 8) + pcN (b 0) 8 := rfl
  rw [hx3]
  generalize pcN (b 0) 8 = c0 at *
  generalize pcN (b 1) 8 = c1 at *
  generalize pcN (b 2) 8 = c2 at *
  generalize pcN (b 3) 8 = c3 at *
  generalize pcN (b 4) 8 = c4 at *
  generalize hx : 256 * (256 * (256 * (256 * (256 * 0 + c4) + c3) + c2) + c1) + c0 = x
  have hxl : x < 2 ^ 40 := by omega
  unfold bc4
  have u4 := lUsh_n (n := x) (s := 8) (by omega) (by omega)
  rw [show ((8 : Nat) : Int) = 8 by rfl] at u4
  rw [u4, show ((x : Int) + ((x / 2 ^ 8 : Nat) : Int)) = ((x + x / 2 ^ 8 : Nat) : Int) by omega]
  generalize hy : x + x / 2 ^ 8 = y
  have hyl : y < 2 ^ 41 := by omega
  unfold bc5
  have u5 := lUsh_n (n := y) (s := 16) (by omega) (by omega)
  rw [show ((16 : Nat) : Int) = 16 by rfl] at u5
  rw [u5, show ((y : Int) + ((y / 2 ^ 16 : Nat) : Int)) = ((y + y / 2 ^ 16 : Nat) : Int) by omega]
  generalize hz : y + y / 2 ^ 16 = z
  have hzl : z < 2 ^ 42 := by omega
  unfold bc6
  have u6 := lUsh_n (n := z) (s := 32) (by omega) (by omega)
  rw [show ((32 : Nat) : Int) = 32 by rfl] at u6
  rw [u6, show ((z : Int) + ((z / 2 ^ 32 : Nat) : Int)) = ((z + z / 2 ^ 32 : Nat) : Int) by omega, bAnd_mask7]
  have hx2 : x / 2 ^ 8 = c1 + 256 * c2 + 65536 * c3 + 16777216 * c4 := by omega
  have hy2 : y / 2 ^ 16 = (c2 + c3) + 256 * (c3 + c4) + 65536 * c4 := by omega
  have hz2 : z / 2 ^ 32 = c4 := by omega
  omega
