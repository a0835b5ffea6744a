/-! numbers -/
theorem i32_t {z : Int} (h : -2147483648 ≤ z ∧ z ≤ 2147483647) : (Int32.ofInt z).toInt = z := Int32.toInt_ofInt_of_le (by omega) (by omega)
theorem i64_t {z : Int} (h : -9223372036854775808 ≤ z ∧ z ≤ 9223372036854775807) : (Int64.ofInt z).toInt = z := Int64.toInt_ofInt_of_le (by omega) (by omega)
theorem i32_r (x : Int32) : -2147483648 ≤ x.toInt ∧ x.toInt ≤ 2147483647 := by
  have h1 := Int32.le_toInt x
  have h2 := Int32.toInt_lt x
  omega
theorem i64_r (x : Int64) : -9223372036854775808 ≤ x.toInt ∧ x.toInt ≤ 9223372036854775807 := by
  have h1 := Int64.le_toInt x
  have h2 := Int64.toInt_lt x
  omega
theorem i32_lt {a b : Int} (ha : -2147483648 ≤ a ∧ a ≤ 2147483647) (hb : -2147483648 ≤ b ∧ b ≤ 2147483647) : Int32.ofInt a < Int32.ofInt b ↔ a < b := by
  rw [Int32.lt_iff_toInt_lt, i32_t ha, i32_t hb]
theorem i32_le {a b : Int} (ha : -2147483648 ≤ a ∧ a ≤ 2147483647) (hb : -2147483648 ≤ b ∧ b ≤ 2147483647) : Int32.ofInt a ≤ Int32.ofInt b ↔ a ≤ b := by
  rw [Int32.le_iff_toInt_le, i32_t ha, i32_t hb]
theorem i32_eq {a b : Int} (ha : -2147483648 ≤ a ∧ a ≤ 2147483647) (hb : -2147483648 ≤ b ∧ b ≤ 2147483647) : Int32.ofInt a = Int32.ofInt b ↔ a = b := by
  rw [← Int32.toInt_inj, i32_t ha, i32_t hb]
theorem i64_lt {a b : Int} (ha : -9223372036854775808 ≤ a ∧ a ≤ 9223372036854775807) (hb : -9223372036854775808 ≤ b ∧ b ≤ 9223372036854775807) : Int64.ofInt a < Int64.ofInt b ↔ a < b := by
  rw [Int64.lt_iff_toInt_lt, i64_t ha, i64_t hb]
theorem i64_eq {a b : Int} (ha : -9223372036854775808 ≤ a ∧ a ≤ 9223372036854775807) (hb : -9223372036854775808 ≤ b ∧ b ≤ 9223372036854775807) : Int64.ofInt a = Int64.ofInt b ↔ a = b := by
  rw [← Int64.toInt_inj, i64_t ha, i64_t hb]
theorem i32_0 : Int32.ofInt 0 = 0 := rfl
theorem i32_N (n : Nat) (h : n < 2 ^ 31) : Int32.ofInt (n : Int) = nI n := by
  rw [← Int32.toInt_inj, i32_t (by omega), nI_toInt h]
theorem i64_N (n : Nat) (h : n < 2 ^ 63) : Int64.ofInt (n : Int) = lN n := by
  rw [← Int64.toInt_inj, i64_t (by omega), pk_lT h]
theorem i32_clamp {z : Int} (h : 0 ≤ z ∧ z ≤ 2147483647) : (Int32.ofInt z).toNatClampNeg = z.toNat := by
  have h1 : z = (z.toNat : Int) := by omega
  rw [h1, i32_N _ (by omega), nI_clamp (by omega)]
  omega
theorem i32_in {z : Int} {n : Nat} (h : 0 ≤ z ∧ z < n) (hn : n < 2147483648) : vp_in (Int32.ofInt z) n := by
  rw [vp_in_iff, i32_t (by omega)]; omega
theorem i32_div {a b : Int} (ha : 0 ≤ a ∧ a ≤ 2147483647) (hb : 0 < b ∧ b ≤ 2147483647) : Int32.ofInt a / Int32.ofInt b = Int32.ofInt (a / b) := by
  obtain ⟨m, rfl⟩ : ∃ m : Nat, a = (m : Int) := ⟨a.toNat, by omega⟩
  obtain ⟨n, rfl⟩ : ∃ n : Nat, b = (n : Int) := ⟨b.toNat, by omega⟩
  have h1 : m / n ≤ m := Nat.div_le_self m n
  rw [i32_N m (by omega), i32_N n (by omega), pk_div (by omega) (by omega) (by omega), ← i32_N _ (by omega)]
  rfl
theorem i32_rem {a b : Int} (ha : 0 ≤ a ∧ a ≤ 2147483647) (hb : 0 < b ∧ b ≤ 2147483647) : Int32.ofInt a - Int32.ofInt a / Int32.ofInt b * Int32.ofInt b = Int32.ofInt (a % b) := by
  obtain ⟨m, rfl⟩ : ∃ m : Nat, a = (m : Int) := ⟨a.toNat, by omega⟩
  obtain ⟨n, rfl⟩ : ∃ n : Nat, b = (n : Int) := ⟨b.toNat, by omega⟩
  have h1 : m % n ≤ m := Nat.mod_le m n
  rw [i32_N m (by omega), i32_N n (by omega), pk_rem (by omega) (by omega) (by omega), ← i32_N _ (by omega)]
  rfl
theorem i64_rem {a b : Int} (ha : 0 ≤ a ∧ a ≤ 9223372036854775807) (hb : 0 < b ∧ b ≤ 9223372036854775807) : Int64.ofInt a - Int64.ofInt a / Int64.ofInt b * Int64.ofInt b = Int64.ofInt (a % b) := by
  obtain ⟨m, rfl⟩ : ∃ m : Nat, a = (m : Int) := ⟨a.toNat, by omega⟩
  obtain ⟨n, rfl⟩ : ∃ n : Nat, b = (n : Int) := ⟨b.toNat, by omega⟩
  have h1 : m % n ≤ m := Nat.mod_le m n
  rw [i64_N m (by omega), i64_N n (by omega), pk_lRem (by omega) (by omega) (by omega), ← i64_N _ (by omega)]
  rfl
theorem i32_ne0 {b : Int} (hb : 0 < b ∧ b ≤ 2147483647) : ¬ Int32.ofInt b = 0 := by
  rw [← i32_0, i32_eq (by omega) (by omega)]; omega
theorem i64_ne0 {b : Int} (hb : 0 < b ∧ b ≤ 9223372036854775807) : ¬ Int64.ofInt b = 0 := by
  rw [show (0 : Int64) = Int64.ofInt 0 from rfl, i64_eq (by omega) (by omega)]; omega
theorem i2l_t {a : Int} (ha : -2147483648 ≤ a ∧ a ≤ 2147483647) : (Int32.ofInt a).toInt64 = Int64.ofInt a := by
  rw [← Int64.toInt_inj, Int32.toInt_toInt64, i32_t ha, i64_t (by omega)]
theorem l2i_t (a : Int) : (Int64.ofInt a).toInt32 = Int32.ofInt a := by
  first | exact Int64.toInt32_ofInt a | simp
/-! bits -/
def bAnd (a b : Int) : Int := (Int32.ofInt a &&& Int32.ofInt b).toInt
def lAnd (a b : Int) : Int := (Int64.ofInt a &&& Int64.ofInt b).toInt
def bOr (a b : Int) : Int := (Int32.ofInt a ||| Int32.ofInt b).toInt
def lOr (a b : Int) : Int := (Int64.ofInt a ||| Int64.ofInt b).toInt
def bXor (a b : Int) : Int := (Int32.ofInt a ^^^ Int32.ofInt b).toInt
def lXor (a b : Int) : Int := (Int64.ofInt a ^^^ Int64.ofInt b).toInt
def bShl (a s : Int) : Int := (Int32.ofInt a <<< (Int32.ofInt s &&& 31)).toInt
def bShr (a s : Int) : Int := (Int32.ofInt a >>> (Int32.ofInt s &&& 31)).toInt
def bUsh (a s : Int) : Int := ((Int32.ofInt a).toUInt32 >>> ((Int32.ofInt s).toUInt32 &&& Int32.toUInt32 31)).toInt32.toInt
def lShl (a s : Int) : Int := (Int64.ofInt a <<< ((Int32.ofInt s).toInt64 &&& 63)).toInt
def lShr (a s : Int) : Int := (Int64.ofInt a >>> ((Int32.ofInt s).toInt64 &&& 63)).toInt
def lUsh (a s : Int) : Int := ((Int64.ofInt a).toUInt64 >>> ((Int32.ofInt s).toInt64.toUInt64 &&& Int64.toUInt64 63)).toInt64.toInt
section LAY3
variable {X : CX} {Y : CY} {cc : ByteArray} {own : String} {nL : Nat} {rt : Option FieldType} {fr lo nm : Nat} {pc : Nat} {L st : List AV} {M : Mem} {P : PMem}
theorem G_iand {a b : Int} (hC : OK X Y cc own nL rt fr lo nm) (d : decode cc pc = .ok (.iand, 1)) (k : G X Y (pc + 1) L (vI (bAnd a b) :: st) M P) : G X Y pc L (vI b :: vI a :: st) M P := by
  intro H locs ls h1 h2 h3
  have h := k H locs ls h1 h2 h3
  simp only [List.map, cv, bAnd, Int32.ofInt_toInt] at h ⊢
  exact lv_iand hC.x hC.b d h
theorem G_ior {a b : Int} (hC : OK X Y cc own nL rt fr lo nm) (d : decode cc pc = .ok (.ior, 1)) (k : G X Y (pc + 1) L (vI (bOr a b) :: st) M P) : G X Y pc L (vI b :: vI a :: st) M P := by
  intro H locs ls h1 h2 h3
  have h := k H locs ls h1 h2 h3
  simp only [List.map, cv, bOr, Int32.ofInt_toInt] at h ⊢
  exact lv_ior hC.x hC.b d h
theorem G_ixor {a b : Int} (hC : OK X Y cc own nL rt fr lo nm) (d : decode cc pc = .ok (.ixor, 1)) (k : G X Y (pc + 1) L (vI (bXor a b) :: st) M P) : G X Y pc L (vI b :: vI a :: st) M P := by
  intro H locs ls h1 h2 h3
  have h := k H locs ls h1 h2 h3
  simp only [List.map, cv, bXor, Int32.ofInt_toInt] at h ⊢
  exact lv_ixor hC.x hC.b d h
theorem G_ishl {a b : Int} (hC : OK X Y cc own nL rt fr lo nm) (d : decode cc pc = .ok (.ishl, 1)) (k : G X Y (pc + 1) L (vI (bShl a b) :: st) M P) : G X Y pc L (vI b :: vI a :: st) M P := by
  intro H locs ls h1 h2 h3
  have h := k H locs ls h1 h2 h3
  simp only [List.map, cv, bShl, Int32.ofInt_toInt] at h ⊢
  exact lv_ishl hC.x hC.b d h
theorem G_ishr {a b : Int} (hC : OK X Y cc own nL rt fr lo nm) (d : decode cc pc = .ok (.ishr, 1)) (k : G X Y (pc + 1) L (vI (bShr a b) :: st) M P) : G X Y pc L (vI b :: vI a :: st) M P := by
  intro H locs ls h1 h2 h3
  have h := k H locs ls h1 h2 h3
  simp only [List.map, cv, bShr, Int32.ofInt_toInt] at h ⊢
  exact lv_ishr hC.x hC.b d h
theorem G_land {a b : Int} (hC : OK X Y cc own nL rt fr lo nm) (d : decode cc pc = .ok (.land, 1)) (k : G X Y (pc + 1) L (vL (lAnd a b) :: st) M P) : G X Y pc L (vL b :: vL a :: st) M P := by
  intro H locs ls h1 h2 h3
  have h := k H locs ls h1 h2 h3
  simp only [List.map, cv, lAnd, Int64.ofInt_toInt] at h ⊢
  exact lv_land hC.x hC.b d h
theorem G_lor {a b : Int} (hC : OK X Y cc own nL rt fr lo nm) (d : decode cc pc = .ok (.lor, 1)) (k : G X Y (pc + 1) L (vL (lOr a b) :: st) M P) : G X Y pc L (vL b :: vL a :: st) M P := by
  intro H locs ls h1 h2 h3
  have h := k H locs ls h1 h2 h3
  simp only [List.map, cv, lOr, Int64.ofInt_toInt] at h ⊢
  exact lv_lor hC.x hC.b d h
theorem G_lxor {a b : Int} (hC : OK X Y cc own nL rt fr lo nm) (d : decode cc pc = .ok (.lxor, 1)) (k : G X Y (pc + 1) L (vL (lXor a b) :: st) M P) : G X Y pc L (vL b :: vL a :: st) M P := by
  intro H locs ls h1 h2 h3
  have h := k H locs ls h1 h2 h3
  simp only [List.map, cv, lXor, Int64.ofInt_toInt] at h ⊢
  exact lv_lxor hC.x hC.b d h
theorem G_iushr {a b : Int} (hC : OK X Y cc own nL rt fr lo nm) (d : decode cc pc = .ok (.iushr, 1)) (k : G X Y (pc + 1) L (vI (bUsh a b) :: st) M P) : G X Y pc L (vI b :: vI a :: st) M P := by
  intro H locs ls h1 h2 h3
  have h := k H locs ls h1 h2 h3
  simp only [List.map, cv, bUsh, Int32.ofInt_toInt] at h ⊢
  exact lv_iushr hC.x hC.b d rfl h
theorem G_lshl {a b : Int} (hC : OK X Y cc own nL rt fr lo nm) (d : decode cc pc = .ok (.lshl, 1)) (k : G X Y (pc + 1) L (vL (lShl a b) :: st) M P) : G X Y pc L (vI b :: vL a :: st) M P := by
  intro H locs ls h1 h2 h3
  have h := k H locs ls h1 h2 h3
  simp only [List.map, cv, lShl, Int64.ofInt_toInt] at h ⊢
  exact lv_lshl hC.x hC.b d rfl h
theorem G_lshr {a b : Int} (hC : OK X Y cc own nL rt fr lo nm) (d : decode cc pc = .ok (.lshr, 1)) (k : G X Y (pc + 1) L (vL (lShr a b) :: st) M P) : G X Y pc L (vI b :: vL a :: st) M P := by
  intro H locs ls h1 h2 h3
  have h := k H locs ls h1 h2 h3
  simp only [List.map, cv, lShr, Int64.ofInt_toInt] at h ⊢
  exact lv_lshr hC.x hC.b d rfl h
theorem G_lushr {a b : Int} (hC : OK X Y cc own nL rt fr lo nm) (d : decode cc pc = .ok (.lushr, 1)) (k : G X Y (pc + 1) L (vL (lUsh a b) :: st) M P) : G X Y pc L (vI b :: vL a :: st) M P := by
  intro H locs ls h1 h2 h3
  have h := k H locs ls h1 h2 h3
  simp only [List.map, cv, lUsh, Int64.ofInt_toInt] at h ⊢
  exact lv_lushr hC.x hC.b d rfl h
theorem G_idiv {a b : Int} (hC : OK X Y cc own nL rt fr lo nm) (d : decode cc pc = .ok (.idiv, 1)) (ha : 0 ≤ a ∧ a ≤ 2147483647) (hb : 0 < b ∧ b ≤ 2147483647) (k : G X Y (pc + 1) L (vI (a / b) :: st) M P) : G X Y pc L (vI b :: vI a :: st) M P := by
  intro H locs ls h1 h2 h3
  have h := k H locs ls h1 h2 h3
  simp only [List.map, cv, ← i32_div ha hb] at h ⊢
  exact lv_idiv hC.x hC.b d (i32_ne0 hb) h
theorem G_irem {a b : Int} (hC : OK X Y cc own nL rt fr lo nm) (d : decode cc pc = .ok (.irem, 1)) (ha : 0 ≤ a ∧ a ≤ 2147483647) (hb : 0 < b ∧ b ≤ 2147483647) (k : G X Y (pc + 1) L (vI (a % b) :: st) M P) : G X Y pc L (vI b :: vI a :: st) M P := by
  intro H locs ls h1 h2 h3
  have h := k H locs ls h1 h2 h3
  simp only [List.map, cv, ← i32_rem ha hb] at h ⊢
  exact lv_irem hC.x hC.b d (i32_ne0 hb) h
theorem G_lrem {a b : Int} (hC : OK X Y cc own nL rt fr lo nm) (d : decode cc pc = .ok (.lrem, 1)) (ha : 0 ≤ a ∧ a ≤ 9223372036854775807) (hb : 0 < b ∧ b ≤ 9223372036854775807) (k : G X Y (pc + 1) L (vL (a % b) :: st) M P) : G X Y pc L (vL b :: vL a :: st) M P := by
  intro H locs ls h1 h2 h3
  have h := k H locs ls h1 h2 h3
  simp only [List.map, cv, ← i64_rem ha hb] at h ⊢
  exact lv_lrem hC.x hC.b d (i64_ne0 hb) h
theorem G_i2l {a : Int} (hC : OK X Y cc own nL rt fr lo nm) (d : decode cc pc = .ok (.i2l, 1)) (ha : -2147483648 ≤ a ∧ a ≤ 2147483647) (k : G X Y (pc + 1) L (vL a :: st) M P) : G X Y pc L (vI a :: st) M P :=
  fun H locs ls h1 h2 h3 => lv_i2l hC.x hC.b d (i2l_t ha) (k H locs ls h1 h2 h3)
theorem G_l2i {a : Int} (hC : OK X Y cc own nL rt fr lo nm) (d : decode cc pc = .ok (.l2i, 1)) (k : G X Y (pc + 1) L (vI a :: st) M P) : G X Y pc L (vL a :: st) M P :=
  fun H locs ls h1 h2 h3 => lv_l2i hC.x hC.b d (l2i_t a) (k H locs ls h1 h2 h3)
def zcmp (a b : Int) : Int := if b < a then 1 else if a = b then 0 else -1
theorem G_lcmp {a b : Int} (hC : OK X Y cc own nL rt fr lo nm) (d : decode cc pc = .ok (.lcmp, 1)) (ha : -9223372036854775808 ≤ a ∧ a ≤ 9223372036854775807) (hb : -9223372036854775808 ≤ b ∧ b ≤ 9223372036854775807) (k : G X Y (pc + 1) L (vI (zcmp a b) :: st) M P) : G X Y pc L (vL b :: vL a :: st) M P := by
  intro H locs ls h1 h2 h3
  have h := k H locs ls h1 h2 h3
  have e : lg_cmp (Int64.ofInt a) (Int64.ofInt b) = Int32.ofInt (zcmp a b) := by
    unfold lg_cmp zcmp
    simp only [i64_lt hb ha, i64_eq ha hb]
    split
    · rfl
    · split <;> rfl
  simp only [List.map, cv, ← e] at h ⊢
  exact W.lcmp hC.x hC.b d h
/-! stack -/
theorem G_dup {v : AV} (hC : OK X Y cc own nL rt fr lo nm) (d : decode cc pc = .ok (.dup, 1)) (hv : isC2 v = false) (k : G X Y (pc + 1) L (v :: v :: st) M P) : G X Y pc L (v :: st) M P :=
  fun H locs ls h1 h2 h3 => lv_dup hC.x hC.b d (by rcases v with z | z | z | z <;> first | rfl | simp [isC2] at hv) (k H locs ls h1 h2 h3)
theorem G_pop {v : AV} (hC : OK X Y cc own nL rt fr lo nm) (d : decode cc pc = .ok (.pop, 1)) (hv : isC2 v = false) (k : G X Y (pc + 1) L st M P) : G X Y pc L (v :: st) M P :=
  fun H locs ls h1 h2 h3 => lv_pop hC.x hC.b d (by rcases v with z | z | z | z <;> first | rfl | simp [isC2] at hv) (k H locs ls h1 h2 h3)
theorem G_dup2 {v w : AV} (hC : OK X Y cc own nL rt fr lo nm) (d : decode cc pc = .ok (.dup2, 1)) (hv : isC2 v = false) (hw : isC2 w = false) (k : G X Y (pc + 1) L (v :: w :: v :: w :: st) M P) : G X Y pc L (v :: w :: st) M P :=
  fun H locs ls h1 h2 h3 => lv_dup2_11 hC.x hC.b d (by rcases v with z | z | z | z <;> first | rfl | simp [isC2] at hv) (by rcases w with z | z | z | z <;> first | rfl | simp [isC2] at hw) (k H locs ls h1 h2 h3)
/-! branches -/
theorem G_goto {off : Int} {tgt : Nat} (hC : OK X Y cc own nL rt fr lo nm) (d : decode cc pc = .ok (.goto off, 3)) (ht : (pc : Int) + off = (tgt : Int)) (k : G X Y tgt L st M P) : G X Y pc L st M P :=
  fun H locs ls h1 h2 h3 => lv_goto hC.x hC.b d ht (k H locs ls h1 h2 h3)
theorem G_icmp_eq {a b off : Int} {tgt : Nat} (hC : OK X Y cc own nL rt fr lo nm) (d : decode cc pc = .ok (.if_icmp .eq off, 3)) (ht : (pc : Int) + off = (tgt : Int)) (ha : -2147483648 ≤ a ∧ a ≤ 2147483647) (hb : -2147483648 ≤ b ∧ b ≤ 2147483647) (kt : a = b → G X Y tgt L st M P) (kf : ¬ a = b → G X Y (pc + 3) L st M P) : G X Y pc L (vI b :: vI a :: st) M P :=
  fun H locs ls h1 h2 h3 => lv_icmp_eq hC.x hC.b d ht (fun q => kt ((i32_eq ha hb).mp q) H locs ls h1 h2 h3) (fun q => kf (fun e => q (congrArg Int32.ofInt e)) H locs ls h1 h2 h3)
theorem G_if_eq {a off : Int} {tgt : Nat} (hC : OK X Y cc own nL rt fr lo nm) (d : decode cc pc = .ok (.ifCond .eq off, 3)) (ht : (pc : Int) + off = (tgt : Int)) (ha : -2147483648 ≤ a ∧ a ≤ 2147483647) (kt : a = 0 → G X Y tgt L st M P) (kf : ¬ a = 0 → G X Y (pc + 3) L st M P) : G X Y pc L (vI a :: st) M P := by
  have hb : -2147483648 ≤ (0 : Int) ∧ (0 : Int) ≤ 2147483647 := by omega
  exact fun H locs ls h1 h2 h3 => lv_if_eq hC.x hC.b d ht (fun q => kt ((i32_eq ha hb).mp q) H locs ls h1 h2 h3) (fun q => kf (fun e => q (congrArg Int32.ofInt e)) H locs ls h1 h2 h3)
theorem G_icmp_ne {a b off : Int} {tgt : Nat} (hC : OK X Y cc own nL rt fr lo nm) (d : decode cc pc = .ok (.if_icmp .ne off, 3)) (ht : (pc : Int) + off = (tgt : Int)) (ha : -2147483648 ≤ a ∧ a ≤ 2147483647) (hb : -2147483648 ≤ b ∧ b ≤ 2147483647) (kt : ¬ a = b → G X Y tgt L st M P) (kf : a = b → G X Y (pc + 3) L st M P) : G X Y pc L (vI b :: vI a :: st) M P :=
  fun H locs ls h1 h2 h3 => lv_icmp_ne hC.x hC.b d ht (fun q => kt (fun e => q (congrArg Int32.ofInt e)) H locs ls h1 h2 h3) (fun q => kf ((i32_eq ha hb).mp q) H locs ls h1 h2 h3)
theorem G_if_ne {a off : Int} {tgt : Nat} (hC : OK X Y cc own nL rt fr lo nm) (d : decode cc pc = .ok (.ifCond .ne off, 3)) (ht : (pc : Int) + off = (tgt : Int)) (ha : -2147483648 ≤ a ∧ a ≤ 2147483647) (kt : ¬ a = 0 → G X Y tgt L st M P) (kf : a = 0 → G X Y (pc + 3) L st M P) : G X Y pc L (vI a :: st) M P := by
  have hb : -2147483648 ≤ (0 : Int) ∧ (0 : Int) ≤ 2147483647 := by omega
  exact fun H locs ls h1 h2 h3 => lv_if_ne hC.x hC.b d ht (fun q => kt (fun e => q (congrArg Int32.ofInt e)) H locs ls h1 h2 h3) (fun q => kf ((i32_eq ha hb).mp q) H locs ls h1 h2 h3)
theorem G_icmp_lt {a b off : Int} {tgt : Nat} (hC : OK X Y cc own nL rt fr lo nm) (d : decode cc pc = .ok (.if_icmp .lt off, 3)) (ht : (pc : Int) + off = (tgt : Int)) (ha : -2147483648 ≤ a ∧ a ≤ 2147483647) (hb : -2147483648 ≤ b ∧ b ≤ 2147483647) (kt : a < b → G X Y tgt L st M P) (kf : b ≤ a → G X Y (pc + 3) L st M P) : G X Y pc L (vI b :: vI a :: st) M P :=
  fun H locs ls h1 h2 h3 => lv_icmp_lt hC.x hC.b d ht (fun q => kt ((i32_lt ha hb).mp q) H locs ls h1 h2 h3) (fun q => kf (Int.not_lt.mp (fun e => q ((i32_lt ha hb).mpr e))) H locs ls h1 h2 h3)
theorem G_if_lt {a off : Int} {tgt : Nat} (hC : OK X Y cc own nL rt fr lo nm) (d : decode cc pc = .ok (.ifCond .lt off, 3)) (ht : (pc : Int) + off = (tgt : Int)) (ha : -2147483648 ≤ a ∧ a ≤ 2147483647) (kt : a < 0 → G X Y tgt L st M P) (kf : 0 ≤ a → G X Y (pc + 3) L st M P) : G X Y pc L (vI a :: st) M P := by
  have hb : -2147483648 ≤ (0 : Int) ∧ (0 : Int) ≤ 2147483647 := by omega
  exact fun H locs ls h1 h2 h3 => lv_if_lt hC.x hC.b d ht (fun q => kt ((i32_lt ha hb).mp q) H locs ls h1 h2 h3) (fun q => kf (Int.not_lt.mp (fun e => q ((i32_lt ha hb).mpr e))) H locs ls h1 h2 h3)
theorem G_icmp_ge {a b off : Int} {tgt : Nat} (hC : OK X Y cc own nL rt fr lo nm) (d : decode cc pc = .ok (.if_icmp .ge off, 3)) (ht : (pc : Int) + off = (tgt : Int)) (ha : -2147483648 ≤ a ∧ a ≤ 2147483647) (hb : -2147483648 ≤ b ∧ b ≤ 2147483647) (kt : b ≤ a → G X Y tgt L st M P) (kf : a < b → G X Y (pc + 3) L st M P) : G X Y pc L (vI b :: vI a :: st) M P :=
  fun H locs ls h1 h2 h3 => lv_icmp_ge hC.x hC.b d ht (fun q => kt ((i32_le hb ha).mp q) H locs ls h1 h2 h3) (fun q => kf (Int.not_le.mp (fun e => q ((i32_le hb ha).mpr e))) H locs ls h1 h2 h3)
theorem G_if_ge {a off : Int} {tgt : Nat} (hC : OK X Y cc own nL rt fr lo nm) (d : decode cc pc = .ok (.ifCond .ge off, 3)) (ht : (pc : Int) + off = (tgt : Int)) (ha : -2147483648 ≤ a ∧ a ≤ 2147483647) (kt : 0 ≤ a → G X Y tgt L st M P) (kf : a < 0 → G X Y (pc + 3) L st M P) : G X Y pc L (vI a :: st) M P := by
  have hb : -2147483648 ≤ (0 : Int) ∧ (0 : Int) ≤ 2147483647 := by omega
  exact fun H locs ls h1 h2 h3 => lv_if_ge hC.x hC.b d ht (fun q => kt ((i32_le hb ha).mp q) H locs ls h1 h2 h3) (fun q => kf (Int.not_le.mp (fun e => q ((i32_le hb ha).mpr e))) H locs ls h1 h2 h3)
theorem G_icmp_gt {a b off : Int} {tgt : Nat} (hC : OK X Y cc own nL rt fr lo nm) (d : decode cc pc = .ok (.if_icmp .gt off, 3)) (ht : (pc : Int) + off = (tgt : Int)) (ha : -2147483648 ≤ a ∧ a ≤ 2147483647) (hb : -2147483648 ≤ b ∧ b ≤ 2147483647) (kt : b < a → G X Y tgt L st M P) (kf : a ≤ b → G X Y (pc + 3) L st M P) : G X Y pc L (vI b :: vI a :: st) M P :=
  fun H locs ls h1 h2 h3 => lv_icmp_gt hC.x hC.b d ht (fun q => kt ((i32_lt hb ha).mp q) H locs ls h1 h2 h3) (fun q => kf (Int.not_lt.mp (fun e => q ((i32_lt hb ha).mpr e))) H locs ls h1 h2 h3)
theorem G_if_gt {a off : Int} {tgt : Nat} (hC : OK X Y cc own nL rt fr lo nm) (d : decode cc pc = .ok (.ifCond .gt off, 3)) (ht : (pc : Int) + off = (tgt : Int)) (ha : -2147483648 ≤ a ∧ a ≤ 2147483647) (kt : 0 < a → G X Y tgt L st M P) (kf : a ≤ 0 → G X Y (pc + 3) L st M P) : G X Y pc L (vI a :: st) M P := by
  have hb : -2147483648 ≤ (0 : Int) ∧ (0 : Int) ≤ 2147483647 := by omega
  exact fun H locs ls h1 h2 h3 => lv_if_gt hC.x hC.b d ht (fun q => kt ((i32_lt hb ha).mp q) H locs ls h1 h2 h3) (fun q => kf (Int.not_lt.mp (fun e => q ((i32_lt hb ha).mpr e))) H locs ls h1 h2 h3)
theorem G_icmp_le {a b off : Int} {tgt : Nat} (hC : OK X Y cc own nL rt fr lo nm) (d : decode cc pc = .ok (.if_icmp .le off, 3)) (ht : (pc : Int) + off = (tgt : Int)) (ha : -2147483648 ≤ a ∧ a ≤ 2147483647) (hb : -2147483648 ≤ b ∧ b ≤ 2147483647) (kt : a ≤ b → G X Y tgt L st M P) (kf : b < a → G X Y (pc + 3) L st M P) : G X Y pc L (vI b :: vI a :: st) M P :=
  fun H locs ls h1 h2 h3 => lv_icmp_le hC.x hC.b d ht (fun q => kt ((i32_le ha hb).mp q) H locs ls h1 h2 h3) (fun q => kf (Int.not_le.mp (fun e => q ((i32_le ha hb).mpr e))) H locs ls h1 h2 h3)
theorem G_if_le {a off : Int} {tgt : Nat} (hC : OK X Y cc own nL rt fr lo nm) (d : decode cc pc = .ok (.ifCond .le off, 3)) (ht : (pc : Int) + off = (tgt : Int)) (ha : -2147483648 ≤ a ∧ a ≤ 2147483647) (kt : a ≤ 0 → G X Y tgt L st M P) (kf : 0 < a → G X Y (pc + 3) L st M P) : G X Y pc L (vI a :: st) M P := by
  have hb : -2147483648 ≤ (0 : Int) ∧ (0 : Int) ≤ 2147483647 := by omega
  exact fun H locs ls h1 h2 h3 => lv_if_le hC.x hC.b d ht (fun q => kt ((i32_le ha hb).mp q) H locs ls h1 h2 h3) (fun q => kf (Int.not_le.mp (fun e => q ((i32_le ha hb).mpr e))) H locs ls h1 h2 h3)
theorem G_tabIn {a dflt lo' hi off : Int} {offs : Array Int} {len tgt : Nat} (hC : OK X Y cc own nL rt fr lo nm) (d : decode cc pc = .ok (.tableswitch dflt lo' hi offs, len)) (ha : -2147483648 ≤ a ∧ a ≤ 2147483647) (h1 : lo' ≤ a) (h2 : a ≤ hi) (ho : offs[(a - lo').toNat]? = some off) (ht : (pc : Int) + off = (tgt : Int)) (k : G X Y tgt L st M P) : G X Y pc L (vI a :: st) M P :=
  fun H locs ls q1 q2 q3 => lv_tableIn hC.x hC.b d (by rw [i32_t ha]; omega) (by rw [i32_t ha]; omega) (by rw [i32_t ha]; exact ho) ht (k H locs ls q1 q2 q3)
theorem G_tabOut {a dflt lo' hi : Int} {offs : Array Int} {len tgt : Nat} (hC : OK X Y cc own nL rt fr lo nm) (d : decode cc pc = .ok (.tableswitch dflt lo' hi offs, len)) (ha : -2147483648 ≤ a ∧ a ≤ 2147483647) (h : a < lo' ∨ hi < a) (ht : (pc : Int) + dflt = (tgt : Int)) (k : G X Y tgt L st M P) : G X Y pc L (vI a :: st) M P :=
  fun H locs ls q1 q2 q3 => lv_tableOut hC.x hC.b d (by rw [i32_t ha]; exact h) ht (k H locs ls q1 q2 q3)
theorem G_look {a dflt off : Int} {ps : Array (Int × Int)} {len tgt : Nat} (hC : OK X Y cc own nL rt fr lo nm) (d : decode cc pc = .ok (.lookupswitch dflt ps, len)) (hp : (ps.toList.zip (ps.toList.drop 1)).all (fun (a, next) => a.1 < next.1) = true) (ha : -2147483648 ≤ a ∧ a ≤ 2147483647) (ho : Op.lookupswitch.offset ps.toList dflt a = off) (ht : (pc : Int) + off = (tgt : Int)) (k : G X Y tgt L st M P) : G X Y pc L (vI a :: st) M P :=
  fun H locs ls q1 q2 q3 => lv_lookup hC.x hC.b d hp (by rw [i32_t ha]; exact ho) ht (k H locs ls q1 q2 q3)
end LAY3
