/-! bit operations on numbers that are not negative -/
theorem nx_and' (a b : Nat) : nI a &&& nI b = nI (a &&& b) := by
  apply Int32.toBitVec_inj.1
  show BitVec.ofNat 32 a &&& BitVec.ofNat 32 b = BitVec.ofNat 32 (a &&& b)
  apply BitVec.eq_of_getLsbD_eq
  intro i hi
  simp [hi]
theorem nx_or' (a b : Nat) : nI a ||| nI b = nI (a ||| b) := by
  apply Int32.toBitVec_inj.1
  show BitVec.ofNat 32 a ||| BitVec.ofNat 32 b = BitVec.ofNat 32 (a ||| b)
  apply BitVec.eq_of_getLsbD_eq
  intro i hi
  simp [hi]
theorem nx_xor' (a b : Nat) : nI a ^^^ nI b = nI (a ^^^ b) := by
  apply Int32.toBitVec_inj.1
  show BitVec.ofNat 32 a ^^^ BitVec.ofNat 32 b = BitVec.ofNat 32 (a ^^^ b)
  apply BitVec.eq_of_getLsbD_eq
  intro i hi
  simp [hi]
theorem nx_not' (x y : Int32) : x &&& (y ^^^ (-1)) = x ^^^ (x &&& y) := by
  apply Int32.toBitVec_inj.1
  rw [Int32.toBitVec_and, Int32.toBitVec_xor, Int32.toBitVec_xor, Int32.toBitVec_and]
  apply BitVec.eq_of_getLsbD_eq
  intro i hi
  have h1 : (Int32.toBitVec (-1)).getLsbD i = true := by
    rw [show Int32.toBitVec (-1) = BitVec.allOnes 32 from by decide +kernel, BitVec.getLsbD_allOnes]
    exact decide_eq_true hi
  rw [BitVec.getLsbD_and, BitVec.getLsbD_xor, BitVec.getLsbD_xor, BitVec.getLsbD_and, h1]
  cases x.toBitVec.getLsbD i <;> cases y.toBitVec.getLsbD i <;> rfl
theorem ly_and (a b : Nat) : lN a &&& lN b = lN (a &&& b) := by
  apply Int64.toBitVec_inj.1
  show BitVec.ofNat 64 a &&& BitVec.ofNat 64 b = BitVec.ofNat 64 (a &&& b)
  apply BitVec.eq_of_getLsbD_eq
  intro i hi
  simp [hi]
theorem ly_or (a b : Nat) : lN a ||| lN b = lN (a ||| b) := by
  apply Int64.toBitVec_inj.1
  show BitVec.ofNat 64 a ||| BitVec.ofNat 64 b = BitVec.ofNat 64 (a ||| b)
  apply BitVec.eq_of_getLsbD_eq
  intro i hi
  simp [hi]
theorem ly_xor (a b : Nat) : lN a ^^^ lN b = lN (a ^^^ b) := by
  apply Int64.toBitVec_inj.1
  show BitVec.ofNat 64 a ^^^ BitVec.ofNat 64 b = BitVec.ofNat 64 (a ^^^ b)
  apply BitVec.eq_of_getLsbD_eq
  intro i hi
  simp [hi]
theorem ly_not (x y : Int64) : x &&& (y ^^^ (-1)) = x ^^^ (x &&& y) := by
  apply Int64.toBitVec_inj.1
  rw [Int64.toBitVec_and, Int64.toBitVec_xor, Int64.toBitVec_xor, Int64.toBitVec_and]
  apply BitVec.eq_of_getLsbD_eq
  intro i hi
  have h1 : (Int64.toBitVec (-1)).getLsbD i = true := by
    rw [show Int64.toBitVec (-1) = BitVec.allOnes 64 from by decide +kernel, BitVec.getLsbD_allOnes]
    exact decide_eq_true hi
  rw [BitVec.getLsbD_and, BitVec.getLsbD_xor, BitVec.getLsbD_xor, BitVec.getLsbD_and, h1]
  cases x.toBitVec.getLsbD i <;> cases y.toBitVec.getLsbD i <;> rfl
theorem and_lt {a b n : Nat} (h : a < 2 ^ n) : a &&& b < 2 ^ n := Nat.lt_of_le_of_lt Nat.and_le_left h
theorem bAnd_n {a b : Nat} (ha : a < 2 ^ 31) (hb : b < 2 ^ 31) : bAnd a b = ((a &&& b : Nat) : Int) := by
  unfold bAnd
  rw [i32_N a ha, i32_N b hb, nx_and', nI_toInt (and_lt ha)]
theorem bOr_n {a b : Nat} (ha : a < 2 ^ 31) (hb : b < 2 ^ 31) : bOr a b = ((a ||| b : Nat) : Int) := by
  unfold bOr
  rw [i32_N a ha, i32_N b hb, nx_or', nI_toInt (Nat.or_lt_two_pow ha hb)]
theorem bXor_n {a b : Nat} (ha : a < 2 ^ 31) (hb : b < 2 ^ 31) : bXor a b = ((a ^^^ b : Nat) : Int) := by
  unfold bXor
  rw [i32_N a ha, i32_N b hb, nx_xor', nI_toInt (Nat.xor_lt_two_pow ha hb)]
/-- a and not b -/
theorem bAndN_n {a b : Nat} (ha : a < 2 ^ 31) (hb : b < 2 ^ 31) : bAnd a (bXor b (-1)) = ((a ^^^ (a &&& b) : Nat) : Int) := by
  unfold bAnd bXor
  rw [Int32.ofInt_toInt, i32_N a ha, i32_N b hb, show Int32.ofInt (-1) = -1 from by decide, nx_not', nx_and', nx_xor', nI_toInt (Nat.xor_lt_two_pow ha (and_lt ha))]
theorem lAnd_n {a b : Nat} (ha : a < 2 ^ 63) (hb : b < 2 ^ 63) : lAnd a b = ((a &&& b : Nat) : Int) := by
  unfold lAnd
  rw [i64_N a ha, i64_N b hb, ly_and, pk_lT (and_lt ha)]
theorem lOr_n {a b : Nat} (ha : a < 2 ^ 63) (hb : b < 2 ^ 63) : lOr a b = ((a ||| b : Nat) : Int) := by
  unfold lOr
  rw [i64_N a ha, i64_N b hb, ly_or, pk_lT (Nat.or_lt_two_pow ha hb)]
theorem lXor_n {a b : Nat} (ha : a < 2 ^ 63) (hb : b < 2 ^ 63) : lXor a b = ((a ^^^ b : Nat) : Int) := by
  unfold lXor
  rw [i64_N a ha, i64_N b hb, ly_xor, pk_lT (Nat.xor_lt_two_pow ha hb)]
theorem lAndN_n {a b : Nat} (ha : a < 2 ^ 63) (hb : b < 2 ^ 63) : lAnd a (lXor b (-1)) = ((a ^^^ (a &&& b) : Nat) : Int) := by
  unfold lAnd lXor
  rw [Int64.ofInt_toInt, i64_N a ha, i64_N b hb, show Int64.ofInt (-1) = -1 from by decide, ly_not, ly_and, ly_xor, pk_lT (Nat.xor_lt_two_pow ha (and_lt ha))]
theorem s_l' : ∀ n, n < 32 → ((nI n &&& 31).toBitVec.smod 32).toNat = n := by decide +kernel
theorem s_u' : ∀ n, n < 32 → (((nI n).toUInt32 &&& Int32.toUInt32 31).toBitVec % 32).toNat = n := by decide +kernel
theorem bShr_n {n s : Nat} (hn : n < 2 ^ 31) (hs : s < 32) : bShr n s = ((n / 2 ^ s : Nat) : Int) := by
  unfold bShr
  have h1 : n / 2 ^ s ≤ n := Nat.div_le_self _ _
  rw [i32_N n hn, i32_N s (by omega), pk_shrN hn _ s (s_l' s hs), nI_toInt (by omega)]
theorem bShl_n {n s : Nat} (hs : s < 32) (h : n * 2 ^ s < 2 ^ 31) : bShl n s = ((n * 2 ^ s : Nat) : Int) := by
  unfold bShl
  have h1 : n ≤ n * 2 ^ s := Nat.le_mul_of_pos_right _ (Nat.two_pow_pos s)
  rw [i32_N n (by omega), i32_N s (by omega), pk_shlN _ s (s_l' s hs) (by omega), nI_toInt h]
theorem l_c : ∀ k, k < 64 → ((nI k).toInt64 &&& 63) = lN k := by decide +kernel
theorem l_sm : ∀ k, k < 64 → (BitVec.ofNat 64 k).smod 64 = BitVec.ofNat 64 k := by decide +kernel
theorem l_tb (n : Nat) : (lN n).toBitVec = BitVec.ofNat 64 n := rfl
theorem lShl_n {n s : Nat} (hs : s < 64) (h : n * 2 ^ s < 2 ^ 63) : lShl n s = ((n * 2 ^ s : Nat) : Int) := by
  unfold lShl
  have h1 : n ≤ n * 2 ^ s := Nat.le_mul_of_pos_right _ (Nat.two_pow_pos s)
  have h2 : lN n <<< lN s = lN (n * 2 ^ s) := by
    apply Int64.toBitVec_inj.1
    rw [Int64.toBitVec_shiftLeft, l_tb, l_tb, l_tb, l_sm s hs]
    apply BitVec.eq_of_toNat_eq
    rw [BitVec.shiftLeft_eq', BitVec.toNat_shiftLeft, BitVec.toNat_ofNat, BitVec.toNat_ofNat, BitVec.toNat_ofNat, Nat.mod_eq_of_lt (show s < 2 ^ 64 by omega), Nat.shiftLeft_eq, Nat.mul_mod, Nat.mod_mod, ← Nat.mul_mod]
  rw [i64_N n (by omega), i32_N s (by omega), l_c s hs, h2, pk_lT h]
theorem lShr_n {n s : Nat} (hn : n < 2 ^ 63) (hs : s < 64) : lShr n s = ((n / 2 ^ s : Nat) : Int) := by
  unfold lShr
  have h1 : n / 2 ^ s ≤ n := Nat.div_le_self _ _
  rw [i64_N n hn, i32_N s (by omega), l_c s hs]
  have h3 : (lN n >>> lN s).toInt = ((lN n).toInt) >>> s := by
    show ((lN n >>> lN s).toBitVec).toInt = _
    rw [Int64.toBitVec_shiftRight, l_tb s, l_sm s hs]
    rw [BitVec.sshiftRight_eq', BitVec.toInt_sshiftRight, BitVec.toNat_ofNat, Nat.mod_eq_of_lt (show s < 2 ^ 64 by omega)]
    rfl
  rw [h3, pk_lT hn, Int.shiftRight_eq_div_pow]
  rfl
/-- operations by parts -/
theorem sp_and {k h1 l1 h2 l2 : Nat} (a : l1 < 2 ^ k) (b : l2 < 2 ^ k) : (2 ^ k * h1 + l1) &&& (2 ^ k * h2 + l2) = 2 ^ k * (h1 &&& h2) + (l1 &&& l2) := by
  apply Nat.eq_of_testBit_eq
  intro i
  rw [Nat.testBit_and, Nat.testBit_two_pow_mul_add _ a, Nat.testBit_two_pow_mul_add _ b, Nat.testBit_two_pow_mul_add _ (and_lt a)]
  split <;> rw [Nat.testBit_and]
theorem sp_or {k h1 l1 h2 l2 : Nat} (a : l1 < 2 ^ k) (b : l2 < 2 ^ k) : (2 ^ k * h1 + l1) ||| (2 ^ k * h2 + l2) = 2 ^ k * (h1 ||| h2) + (l1 ||| l2) := by
  apply Nat.eq_of_testBit_eq
  intro i
  rw [Nat.testBit_or, Nat.testBit_two_pow_mul_add _ a, Nat.testBit_two_pow_mul_add _ b, Nat.testBit_two_pow_mul_add _ (Nat.or_lt_two_pow a b)]
  split <;> rw [Nat.testBit_or]
theorem sp_xor {k h1 l1 h2 l2 : Nat} (a : l1 < 2 ^ k) (b : l2 < 2 ^ k) : (2 ^ k * h1 + l1) ^^^ (2 ^ k * h2 + l2) = 2 ^ k * (h1 ^^^ h2) + (l1 ^^^ l2) := by
  apply Nat.eq_of_testBit_eq
  intro i
  rw [Nat.testBit_xor, Nat.testBit_two_pow_mul_add _ a, Nat.testBit_two_pow_mul_add _ b, Nat.testBit_two_pow_mul_add _ (Nat.xor_lt_two_pow a b)]
  split <;> rw [Nat.testBit_xor]
/-! how dishes lie: a code for each of six seats -/
def enc (f : Nat → Nat) : Nat := f 0 + 8 * f 1 + 64 * f 2 + 512 * f 3 + 4096 * f 4 + 32768 * f 5
def lo8 (f : Nat → Nat) : Prop := ∀ i, f i < 8
def ud (f : Nat → Nat) (i d : Nat) : Nat → Nat := fun j => if j = i then d else f j
theorem ud_lo {f : Nat → Nat} {i d : Nat} (h : lo8 f) (hd : d < 8) : lo8 (ud f i d) := by
  intro j; unfold ud; split
  · exact hd
  · exact h j
theorem enc_lt {f : Nat → Nat} (h : lo8 f) : enc f < 262144 := by
  have := h 0; have := h 1; have := h 2; have := h 3; have := h 4; have := h 5
  unfold enc; omega
theorem enc_split {f : Nat → Nat} (h : lo8 f) {i : Nat} (hi : i < 6) : ∃ hh ll, ll < 2 ^ (3 * i) ∧ enc f = 2 ^ (3 * i) * (8 * hh + f i) + ll ∧ (∀ d, enc (ud f i d) = 2 ^ (3 * i) * (8 * hh + d) + ll) ∧ 2 ^ (3 * i) * (8 * hh + 8) ≤ 262144 := by
  have h0 := h 0; have h1 := h 1; have h2 := h 2; have h3 := h 3; have h4 := h 4; have h5 := h 5
  rcases (show i = 0 ∨ i = 1 ∨ i = 2 ∨ i = 3 ∨ i = 4 ∨ i = 5 by omega) with rfl | rfl | rfl | rfl | rfl | rfl
  · exact ⟨f 1 + 8 * f 2 + 64 * f 3 + 512 * f 4 + 4096 * f 5, 0, by omega, by unfold enc; omega, fun d => by simp [enc, ud] <;> omega, by omega⟩
  · exact ⟨f 2 + 8 * f 3 + 64 * f 4 + 512 * f 5, f 0, by omega, by unfold enc; omega, fun d => by simp [enc, ud] <;> omega, by omega⟩
  · exact ⟨f 3 + 8 * f 4 + 64 * f 5, f 0 + 8 * f 1, by omega, by unfold enc; omega, fun d => by simp [enc, ud] <;> omega, by omega⟩
  · exact ⟨f 4 + 8 * f 5, f 0 + 8 * f 1 + 64 * f 2, by omega, by unfold enc; omega, fun d => by simp [enc, ud] <;> omega, by omega⟩
  · exact ⟨f 5, f 0 + 8 * f 1 + 64 * f 2 + 512 * f 3, by omega, by unfold enc; omega, fun d => by simp [enc, ud] <;> omega, by omega⟩
  · exact ⟨0, f 0 + 8 * f 1 + 64 * f 2 + 512 * f 3 + 4096 * f 4, by omega, by unfold enc; omega, fun d => by simp [enc, ud] <;> omega, by omega⟩
theorem enc_dig {f : Nat → Nat} (h : lo8 f) {i : Nat} (hi : i < 6) : enc f / 2 ^ (3 * i) % 8 = f i := by
  obtain ⟨hh, ll, a, b, -, -⟩ := enc_split h hi
  have := h i
  rw [b, Nat.mul_add_div (Nat.two_pow_pos _), Nat.div_eq_of_lt a]
  omega
theorem enc_inj {f g : Nat → Nat} (hf : lo8 f) (hg : lo8 g) (e : enc f = enc g) {i : Nat} (hi : i < 6) : f i = g i := by
  rw [← enc_dig hf hi, ← enc_dig hg hi, e]
theorem and7 (n : Nat) : n &&& 7 = n % 8 := Nat.and_two_pow_sub_one_eq_mod n 3
/-- before -/
theorem m_before {f : Nat → Nat} (h : lo8 f) {i : Nat} (hi : i < 6) : bAnd (bShr (enc f) (3 * i)) 7 = (f i : Int) := by
  have hl := enc_lt h
  rw [show (3 * (i : Int)) = ((3 * i : Nat) : Int) by omega, bShr_n (by omega) (by omega), show (7 : Int) = ((7 : Nat) : Int) by rfl, bAnd_n (by have := Nat.div_le_self (enc f) (2 ^ (3 * i)); omega) (by omega), and7, enc_dig h hi]
theorem x_self (n : Nat) : n ^^^ n = 0 := Nat.xor_self n
/-- placed -/
theorem m_placed {f : Nat → Nat} (h : lo8 f) {i d : Nat} (hi : i < 6) (hd : d < 8) : bOr (bAnd (enc f) (bXor (bShl 7 (3 * i)) (-1))) (bShl d (3 * i)) = ((enc (ud f i d) : Nat) : Int) := by
  obtain ⟨hh, ll, a, b, c, e⟩ := enc_split h hi
  have hl := enc_lt h
  have hfi := h i
  have hm : ∀ x, x < 8 → x * 2 ^ (3 * i) < 262144 := by
    intro x hx
    have : x * 2 ^ (3 * i) ≤ 2 ^ (3 * i) * (8 * hh + 7) := by rw [Nat.mul_comm]; exact Nat.mul_le_mul_left _ (by omega)
    have : 2 ^ (3 * i) * (8 * hh + 8) = 2 ^ (3 * i) * (8 * hh + 7) + 2 ^ (3 * i) := Nat.mul_succ _ (8 * hh + 7)
    have := Nat.two_pow_pos (3 * i)
    omega
  have h7 := hm 7 (by omega)
  have hd' := hm d hd
  have h1 : enc f &&& (7 * 2 ^ (3 * i)) = 2 ^ (3 * i) * f i := by
    rw [b, show 7 * 2 ^ (3 * i) = 2 ^ (3 * i) * 7 + 0 by rw [Nat.mul_comm]; rfl, sp_and a (Nat.two_pow_pos _), and7, Nat.and_zero]
    rw [show (8 * hh + f i) % 8 = f i by omega]; rfl
  have h2 : enc f ^^^ (2 ^ (3 * i) * f i) = 2 ^ (3 * i) * (8 * hh) + ll := by
    rw [b, show 2 ^ (3 * i) * f i = 2 ^ (3 * i) * f i + 0 by rfl, sp_xor a (Nat.two_pow_pos _), Nat.xor_zero]
    rw [show 8 * hh + f i = 2 ^ 3 * hh + f i by rfl]
    rw [show (2 ^ 3 * hh + f i) ^^^ f i = 2 ^ 3 * (hh ^^^ 0) + (f i ^^^ f i) by
      rw [show (2 ^ 3 * hh + f i) ^^^ f i = (2 ^ 3 * hh + f i) ^^^ (2 ^ 3 * 0 + f i) by simp, sp_xor (by omega) (by omega)]]
    simp
  have h3 : (2 ^ (3 * i) * (8 * hh) + ll) ||| (d * 2 ^ (3 * i)) = 2 ^ (3 * i) * (8 * hh + d) + ll := by
    rw [show d * 2 ^ (3 * i) = 2 ^ (3 * i) * d + 0 by rw [Nat.mul_comm]; rfl, sp_or a (Nat.two_pow_pos _), Nat.or_zero]
    rw [show 8 * hh ||| d = 8 * hh + d by
      rw [show 8 * hh = 2 ^ 3 * hh + 0 by rfl, show d = 2 ^ 3 * 0 + d by omega, sp_or (by omega) (by omega)]; simp]
  rw [show (3 * (i : Int)) = ((3 * i : Nat) : Int) by omega, show (7 : Int) = ((7 : Nat) : Int) by rfl, bShl_n (by omega) (by omega), bShl_n (by omega) (by omega), bAndN_n (by omega) (by omega), h1, h2]
  have h4 : 2 ^ (3 * i) * (8 * hh) + ll ≤ enc f := by rw [b]; have := Nat.mul_le_mul_left (2 ^ (3 * i)) (show 8 * hh ≤ 8 * hh + f i by omega); omega
  rw [bOr_n (by omega) (by omega), h3, c]
def sw (f : Nat → Nat) (i j : Nat) : Nat → Nat := ud (ud f i (f j)) j (f i)
theorem sw_lo {f : Nat → Nat} {i j : Nat} (h : lo8 f) : lo8 (sw f i j) := ud_lo (ud_lo h (h j)) (h i)
/-- one digit changed by an exclusive or -/
theorem m_xdig {f : Nat → Nat} (h : lo8 f) {i x : Nat} (hi : i < 6) (hx : x < 8) : enc f ^^^ (x * 2 ^ (3 * i)) = enc (ud f i (f i ^^^ x)) ∧ x * 2 ^ (3 * i) < 262144 := by
  obtain ⟨hh, ll, a, b, c, e⟩ := enc_split h hi
  have hfi := h i
  constructor
  · rw [b, c, show x * 2 ^ (3 * i) = 2 ^ (3 * i) * x + 0 by rw [Nat.mul_comm]; rfl, sp_xor a (Nat.two_pow_pos _), Nat.xor_zero]
    rw [show 8 * hh + f i = 2 ^ 3 * hh + f i by rfl]
    rw [show (2 ^ 3 * hh + f i) ^^^ x = 2 ^ 3 * (hh ^^^ 0) + (f i ^^^ x) by
      rw [show (2 ^ 3 * hh + f i) ^^^ x = (2 ^ 3 * hh + f i) ^^^ (2 ^ 3 * 0 + x) by simp, sp_xor (by omega) (by omega)]]
    simp
  · have : x * 2 ^ (3 * i) ≤ 2 ^ (3 * i) * (8 * hh + 7) := by rw [Nat.mul_comm]; exact Nat.mul_le_mul_left _ (by omega)
    have : 2 ^ (3 * i) * (8 * hh + 8) = 2 ^ (3 * i) * (8 * hh + 7) + 2 ^ (3 * i) := Nat.mul_succ _ (8 * hh + 7)
    have := Nat.two_pow_pos (3 * i)
    omega
theorem x8 {a b : Nat} (ha : a < 8) (hb : b < 8) : a ^^^ b < 8 := Nat.xor_lt_two_pow (n := 3) ha hb
/-- changed -/
theorem m_changed {f : Nat → Nat} (h : lo8 f) {i j : Nat} (hi : i < 6) (hj : j < 6) (hij : i ≠ j) : bXor (bXor (enc f) (bShl (bAnd (bXor (bShr (enc f) (3 * i)) (bShr (enc f) (3 * j))) 7) (3 * i))) (bShl (bAnd (bXor (bShr (enc f) (3 * i)) (bShr (enc f) (3 * j))) 7) (3 * j)) = ((enc (sw f i j) : Nat) : Int) := by
  have hl := enc_lt h
  have d1 := Nat.div_le_self (enc f) (2 ^ (3 * i))
  have d2 := Nat.div_le_self (enc f) (2 ^ (3 * j))
  rw [show (3 * (i : Int)) = ((3 * i : Nat) : Int) by omega, show (3 * (j : Int)) = ((3 * j : Nat) : Int) by omega, bShr_n (by omega) (by omega), bShr_n (by omega) (by omega), bXor_n (by omega) (by omega), show (7 : Int) = ((7 : Nat) : Int) by rfl, bAnd_n (Nat.xor_lt_two_pow (by omega) (by omega)) (by omega), and7]
  have hx : (enc f / 2 ^ (3 * i) ^^^ enc f / 2 ^ (3 * j)) % 8 = f i ^^^ f j := by
    rw [← enc_dig h hi, ← enc_dig h hj]
    exact Nat.xor_mod_two_pow (n := 3)
  rw [hx]
  have hxl := x8 (h i) (h j)
  obtain ⟨e1, b1⟩ := m_xdig h hi hxl
  have hlo1 : lo8 (ud f i (f i ^^^ (f i ^^^ f j))) := ud_lo h (x8 (h i) hxl)
  obtain ⟨e2, b2⟩ := m_xdig hlo1 hj hxl
  rw [bShl_n (by omega) (by omega), bShl_n (by omega) (by omega), bXor_n (by omega) (by omega), e1, bXor_n (by have := enc_lt hlo1; omega) (by omega), e2]
  congr 1
  unfold sw
  congr 1
  rw [show f i ^^^ (f i ^^^ f j) = f j by rw [← Nat.xor_assoc, Nat.xor_self, Nat.zero_xor]]
  rw [show ud f i (f j) j = f j by simp [ud, hij.symm]]
  rw [show f j ^^^ (f i ^^^ f j) = f i by rw [Nat.xor_comm (f i), ← Nat.xor_assoc, Nat.xor_self, Nat.zero_xor]]
