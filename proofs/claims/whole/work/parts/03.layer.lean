/-! abstract values, memory, shapes -/
abbrev AV : Type := Int ⊕ (Int ⊕ (Nat ⊕ Nat))
abbrev vI (z : Int) : AV := .inl z
abbrev vL (z : Int) : AV := .inr (.inl z)
abbrev vR (k : Nat) : AV := .inr (.inr (.inl k))
abbrev vX (n : Nat) : AV := .inr (.inr (.inr n))
abbrev Mem : Type := Nat → Nat → Int
abbrev PMem : Type := Nat → Nat → Option Nat
def cv (ad : Nat → Nat) : AV → Value
  | .inl z => .int (Int32.ofInt z)
  | .inr (.inl z) => .long (Int64.ofInt z)
  | .inr (.inr (.inl k)) => .ref (ad k)
  | .inr (.inr (.inr _)) => .null
def isV : AV → Bool
  | .inr (.inr (.inr _)) => false
  | _ => true
def isC2 : AV → Bool
  | .inr (.inl _) => true
  | _ => false
def upM (M : Mem) (k j : Nat) (v : Int) : Mem := fun a b => if a = k ∧ b = j then v else M a b
def upP (P : PMem) (k j : Nat) (v : Option Nat) : PMem := fun a b => if a = k ∧ b = j then v else P a b
/-- the shapes of the cells, by their numbers -/
def shp : Nat → Nat × Nat
  | 0 => (9, 0)
  | 1 => (11, 300)
  | 2 => (7, 0)
  | 3 => (11, 6)
  | 4 => (11, 6)
  | 5 => (11, 36)
  | 6 => (4, 0)
  | 7 => (11, 3)
  | 8 => (7, 0)
  | 9 => (11, 6)
  | 10 => (11, 6)
  | 11 => (11, 36)
  | 12 => (0, 0)
  | 13 => (11, 720)
  | 14 => (11, 2048)
  | 15 => (3, 0)
  | 16 => (12, 4320)
  | 17 => (5, 0)
  | 18 => (11, 720)
  | 19 => (11, 720)
  | 20 => (11, 720)
  | 21 => (6, 0)
  | 22 => (11, 720)
  | 23 => (12, 720)
  | 24 => (12, 720)
  | 25 => (8, 0)
  | 26 => (7, 0)
  | 27 => (11, 6)
  | 28 => (11, 6)
  | 29 => (11, 36)
  | 30 => (5, 0)
  | 31 => (3, 0)
  | 32 => (12, 0)
  | 33 => (11, 720)
  | 34 => (11, 720)
  | 35 => (11, 720)
  | 36 => (1, 0)
  | 37 => (2, 0)
  | 38 => (11, 8)
  | 39 => (12, 8)
  | 40 => (11, 8)
  | 41 => (2, 0)
  | 42 => (11, 8)
  | 43 => (12, 8)
  | 44 => (11, 8)
  | 45 => (10, 0)
  | 46 => (11, 6)
  | 47 => (11, 6)
  | 48 => (11, 36)
  | 49 => (11, 6)
  | 50 => (11, 6)
  | 51 => (11, 6)
  | 52 => (11, 48)
  | 53 => (11, 48)
  | 54 => (11, 8)
  | 55 => (11, 12)
  | 56 => (11, 12)
  | 57 => (11, 2)
  | 58 => (11, 300)
  | 59 => (11, 6)
  | 60 => (11, 6)
  | 61 => (11, 36)
  | 62 => (11, 6)
  | 63 => (11, 6)
  | 64 => (11, 6)
  | 65 => (11, 6)
  | 66 => (11, 36)
  | 67 => (11, 46656)
  | 68 => (11, 720)
  | 69 => (11, 720)
  | 70 => (11, 720)
  | 71 => (13, 36)
  | 72 => (13, 720)
  | 73 => (11, 64)
  | 74 => (11, 64)
  | 75 => (12, 720)
  | 76 => (12, 720)
  | _ => (11, 0)
def fks : Nat → List Nat
  | 0 => [0, 2, 2]
  | 1 => [0, 1, 0]
  | 2 => [0, 0, 2, 2, 2]
  | 3 => [2, 2, 2]
  | 4 => [2, 2, 2, 0, 0]
  | 5 => [2, 0, 2, 2, 2, 0, 0]
  | 6 => [2, 2, 2, 2]
  | 7 => [0, 0, 0, 0, 0, 0, 2, 2, 2]
  | 8 => [0, 0, 0, 0, 0, 2, 2, 2, 2]
  | 9 => [2, 0, 2, 2, 2, 2, 2, 2, 2, 2, 2, 2, 2]
  | 10 => [0, 0, 0, 0, 0, 2, 2, 2, 2, 2, 2, 0, 0, 2, 2, 2, 0, 2, 2, 2, 2, 0, 0, 0, 0, 0, 0, 0, 2, 2, 2, 2, 2, 2, 2, 2, 2, 0, 2, 2, 2, 0, 0, 2, 2, 2, 2, 2, 2]
  | _ => []
def fvl (ad : Nat → Nat) (M : Mem) (P : PMem) (k j : Nat) : Nat → Value
  | 0 => .int (Int32.ofInt (M k j))
  | 1 => .long (Int64.ofInt (M k j))
  | _ => va_rf ((P k j).map ad)
abbrev CYT : Type := ClassId × ClassId × ClassId
def ceS (cy : CYT) (ad : Nat → Nat) (M : Mem) (P : PMem) (k : Nat) (sh : Nat × Nat) : va_E :=
  if sh.1 = 11 then .inl (cy.1, sh.2, .inl (fun j => Int32.ofInt (M k j)))
  else if sh.1 = 12 then .inl (cy.2.1, sh.2, .inr (.inl (fun j => Int64.ofInt (M k j))))
  else if sh.1 = 13 then .inl (cy.2.2, sh.2, .inl (fun j => Int32.ofInt (M k j)))
  else .inr (sh.1, (fks sh.1).mapIdx (fun j kd => fvl ad M P k j kd))
def ce (cy : CYT) (ad : Nat → Nat) (M : Mem) (P : PMem) (k : Nat) : va_E := ceS cy ad M P k (shp k)
def wl (cy : CYT) (ad : Nat → Nat) (n : Nat) (M : Mem) (P : PMem) : va_W := (List.range n).map (fun k => (ad k, ce cy ad M P k))
theorem wl_get {cy : CYT} {ad : Nat → Nat} {n k : Nat} {M : Mem} {P : PMem} (h : k < n) : (wl cy ad n M P)[k]? = some (ad k, ce cy ad M P k) := by
  simp [wl, List.getElem?_map, List.getElem?_range, h]
theorem wl_set {cy : CYT} {ad : Nat → Nat} {n k : Nat} {M M' : Mem} {P P' : PMem} (h : k < n) (ho : ∀ i, i ≠ k → ce cy ad M' P' i = ce cy ad M P i) : (wl cy ad n M P).set k (ad k, ce cy ad M' P' k) = wl cy ad n M' P' := by
  apply List.ext_getElem?
  intro i
  by_cases hi : i = k
  · subst hi
    rw [List.getElem?_set_self (by simp [wl, h]), wl_get h]
  · rw [List.getElem?_set_ne (fun e => hi e.symm)]
    by_cases hn : i < n
    · rw [wl_get hn, wl_get hn, ho i hi]
    · simp [wl, List.getElem?_map, hn]
theorem wl_push {cy : CYT} {ad : Nat → Nat} {n q : Nat} {M M' : Mem} {P P' : PMem} (ho : ∀ i, i < n → ce cy (va_up ad n q) M' P' i = ce cy ad M P i) : wl cy ad n M P ++ [(q, ce cy (va_up ad n q) M' P' n)] = wl cy (va_up ad n q) (n + 1) M' P' := by
  apply List.ext_getElem?
  intro i
  by_cases hn : i < n
  · rw [List.getElem?_append_left (by simp [wl, hn]), wl_get hn, wl_get (by omega), ho i hn, va_up_ne _ _ (by omega)]
  · by_cases hi : i = n
    · subst hi
      rw [wl_get (by omega), va_up_self, List.getElem?_append_right (by simp [wl])]
      simp [wl]
    · rw [List.getElem?_append_right (by simp [wl]; omega)]
      simp [wl, List.getElem?_map]
      rw [List.getElem?_eq_none (by simp; omega), List.getElem?_eq_none (by simp; omega)]
      simp
theorem ceS_obj {cy : CYT} {ad : Nat → Nat} {M : Mem} {P : PMem} {k ci z : Nat} (h : shp k = (ci, z)) (hc : ci < 11) : ce cy ad M P k = .inr (ci, (fks ci).mapIdx (fun j kd => fvl ad M P k j kd)) := by
  unfold ce ceS
  rw [h]
  dsimp only
  rw [if_neg (by omega), if_neg (by omega), if_neg (by omega)]
theorem ceS_I {cy : CYT} {ad : Nat → Nat} {M : Mem} {P : PMem} {k z : Nat} (h : shp k = (11, z)) : ce cy ad M P k = .inl (cy.1, z, .inl (fun j => Int32.ofInt (M k j))) := by
  unfold ce ceS; rw [h]; rfl
theorem ceS_J {cy : CYT} {ad : Nat → Nat} {M : Mem} {P : PMem} {k z : Nat} (h : shp k = (12, z)) : ce cy ad M P k = .inl (cy.2.1, z, .inr (.inl (fun j => Int64.ofInt (M k j)))) := by
  unfold ce ceS; rw [h]; rfl
theorem ceS_Z {cy : CYT} {ad : Nat → Nat} {M : Mem} {P : PMem} {k z : Nat} (h : shp k = (13, z)) : ce cy ad M P k = .inl (cy.2.2, z, .inl (fun j => Int32.ofInt (M k j))) := by
  unfold ce ceS; rw [h]; rfl
theorem fvl_congr {ad : Nat → Nat} {M M' : Mem} {P P' : PMem} {k : Nat} (hM : ∀ j, M' k j = M k j) (hP : ∀ j, P' k j = P k j) (j kd : Nat) : fvl ad M' P' k j kd = fvl ad M P k j kd := by
  unfold fvl
  split <;> simp [hM, hP]
theorem ce_congr {cy : CYT} {ad : Nat → Nat} {M M' : Mem} {P P' : PMem} {k : Nat} (hM : ∀ j, M' k j = M k j) (hP : ∀ j, P' k j = P k j) : ce cy ad M' P' k = ce cy ad M P k := by
  unfold ce ceS
  simp only [hM, fvl_congr hM hP]
theorem upM_ne {M : Mem} {k j i : Nat} {v : Int} (h : i ≠ k) (x : Nat) : upM M k j v i x = M i x := by simp [upM, h]
theorem upP_ne {P : PMem} {k j i : Nat} {v : Option Nat} (h : i ≠ k) (x : Nat) : upP P k j v i x = P i x := by simp [upP, h]
theorem upM_self (M : Mem) (k j : Nat) (v : Int) : upM M k j v k j = v := by simp [upM]
theorem upM_nej {M : Mem} {k j x : Nat} {v : Int} (h : x ≠ j) (i : Nat) : upM M k j v i x = M i x := by simp [upM, h]
/-! words -/
def lwG : List Cond := lw_tbl.filter goodWord
def isNest : Cond → Bool
  | .methodLinkNest .. => true
  | _ => false
def lwN : List Cond := lw_tbl.filter isNest
theorem lwG_in {w : Cond} (h : w ∈ lw_tbl) (hg : goodWord w = true) : w ∈ lwG := List.mem_filter.mpr ⟨h, hg⟩
theorem lwN_in {w : Cond} (h : w ∈ lw_tbl) (hg : isNest w = true) : w ∈ lwN := List.mem_filter.mpr ⟨h, hg⟩
theorem lwG_good {w : Cond} (h : w ∈ lwG) : goodWord w = true := (List.mem_filter.mp h).2
theorem lwN_warm {s U : State} (hW : s.WarmedH U.vm) (h : ∀ w ∈ lwN, va_Nw w s) : ∀ w ∈ lwN, va_Nw w U := by
  intro w hw
  have h1 := h w hw
  have h2 := (List.mem_filter.mp hw).2
  cases w <;> simp [isNest] at h2
  exact va_Nw.warmM hW h1
theorem lwN_same {s U : State} (hv : s.vm = U.vm) (h : ∀ w ∈ lwN, va_Nw w s) : ∀ w ∈ lwN, va_Nw w U := by
  intro w hw
  have h1 := h w hw
  have h2 := (List.mem_filter.mp hw).2
  cases w <;> simp [isNest] at h2
  exact va_Nw.same rfl hv h1
abbrev tysC (cy : CYT) : List (ClassId × FieldType) := [(cy.1, .int), (cy.2.1, .long), (cy.2.2, .boolean)]
/-! the context -/
abbrev CX : Type := (Program × Launch × Env × Room × State × MethodId × Array Value × List Frame) × (Method × Code × va_G × CYT) × ((Nat → Prop) × (State → Prop) × (Nat → Nat) × Nat)
abbrev CY : Type := (Nat → Nat) × Nat × Nat × Nat
abbrev xp (X : CX) : Program := X.1.1
abbrev xl (X : CX) : Launch := X.1.2.1
abbrev xe (X : CX) : Env := X.1.2.2.1
abbrev xR (X : CX) : Room := X.1.2.2.2.1
abbrev xs (X : CX) : State := X.1.2.2.2.2.1
abbrev xm (X : CX) : MethodId := X.1.2.2.2.2.2.1
abbrev xargs (X : CX) : Array Value := X.1.2.2.2.2.2.2.1
abbrev xbelow (X : CX) : List Frame := X.1.2.2.2.2.2.2.2
abbrev xmeth (X : CX) : Method := X.2.1.1
abbrev xc (X : CX) : Code := X.2.1.2.1
abbrev xD (X : CX) : va_G := X.2.1.2.2.1
abbrev xcy (X : CX) : CYT := X.2.1.2.2.2
abbrev xA (X : CX) : Nat → Prop := X.2.2.1
abbrev xQ (X : CX) : State → Prop := X.2.2.2.1
abbrev xad (X : CX) : Nat → Nat := X.2.2.2.2.1
abbrev xn (X : CX) : Nat := X.2.2.2.2.2
abbrev ya (Y : CY) : Nat → Nat := Y.1
abbrev yn (Y : CY) : Nat := Y.2.1
abbrev yc (Y : CY) : Nat := Y.2.2.1
abbrev ys (Y : CY) : Nat := Y.2.2.2
def LH (ad : Nat → Nat) (ls : Array Slot) (L : List AV) : Prop := ls.size = L.length ∧ lv_wf ls ∧ ∀ (i : Nat) (v : AV), L[i]? = some v → isV v = true → ls[i]? = some (.val (cv ad v))
def injA (ad : Nat → Nat) (n : Nat) : Prop := ∀ i j, i < n → j < n → ad i = ad j → i = j
/-- what holds throughout a method's walk -/
def OK (X : CX) (Y : CY) (cc : ByteArray) (own : String) (nL : Nat) (rt : Option FieldType) (fr lo nm : Nat) : Prop :=
  ((xp X).tables.exec = Jvm.exec ∧ (xc X).code = cc ∧ (xs X).vm.findClass own = some (xm X).cls ∧ (xc X).maxLocals = nL ∧ (xmeth X).sig.returnType = rt ∧ (xmeth X).locks = false) ∧
  ((∀ w ∈ lwG, w.before (xargs X) (xs X) = true) ∧ (∀ w ∈ lwN, va_Nw w (xs X)) ∧ va_K (xD X) vwCl (tysC (xcy X)) (xs X)) ∧
  (injA (ya Y) (yn Y) ∧ (∀ i, i < yn Y → xA X (ya Y i)) ∧ (∀ q, (xs X).heap.size ≤ q → xA X q)) ∧
  ((xR X).frames = fr ∧ (xR X).locals = lo ∧ yc Y ≤ (xR X).cells ∧ ys Y ≤ (xR X).slots ∧ nm ≤ yn Y) ∧
  (xn X ≤ yn Y ∧ (∀ k, k < xn X → ya Y k = xad X k) ∧ (∀ k, xn X ≤ k → k < yn Y → (xs X).heap.size ≤ ya Y k) ∧ (yn Y = xn X → ya Y = xad X))
abbrev WW (X : CX) (Y : CY) (H : Heap) (locs : List Loc) (g : JFrame) : Prop := W (xp X) (xl X) (xe X) (xR X) (xs X) (xm X) (xargs X) (xbelow X) (xmeth X) (xc X) H locs (yc Y) (ys Y) (xQ X) g
def G (X : CX) (Y : CY) (pc : Nat) (L st : List AV) (M : Mem) (P : PMem) : Prop :=
  ∀ (H : Heap) (locs : List Loc) (ls : Array Slot), va_P (xD X) vwCl (wl (xcy X) (ya Y) (yn Y) M P) H → va_S (xA X) (xs X).heap H locs → LH (ya Y) ls L → WW X Y H locs (F0 (xm X) pc ls (st.map (cv (ya Y))))
theorem wl_D {cy : CYT} {ad : Nat → Nat} {n : Nat} {A : Nat → Prop} {M : Mem} {P : PMem} (hi : injA ad n) (hA : ∀ i, i < n → A (ad i)) : va_D A (wl cy ad n M P) := by
  have key : ∀ (i : Nat) (p : Nat × va_E), (wl cy ad n M P)[i]? = some p → i < n ∧ p.1 = ad i := by
    intro i p h
    have hl := (List.getElem?_eq_some_iff.mp h).1
    have hn : i < n := by simpa [wl] using hl
    rw [wl_get hn] at h
    cases h
    exact ⟨hn, rfl⟩
  refine ⟨fun i j p q h1 h2 e => ?_, fun k q h => ?_⟩
  · obtain ⟨a1, a2⟩ := key i p h1
    obtain ⟨b1, b2⟩ := key j q h2
    exact hi i j a1 b1 (by rw [← a2, ← b2, e])
  · obtain ⟨a1, a2⟩ := key k q h
    rw [a2]; exact hA k a1
section LAY
variable {X : CX} {Y : CY} {cc : ByteArray} {own : String} {nL : Nat} {rt : Option FieldType} {fr lo nm : Nat} {pc : Nat} {L st : List AV} {M : Mem} {P : PMem}
theorem OK.x (hC : OK X Y cc own nL rt fr lo nm) : (xp X).tables.exec = Jvm.exec := hC.1.1
theorem OK.b (hC : OK X Y cc own nL rt fr lo nm) : (xc X).code = cc := hC.1.2.1
theorem OK.o (hC : OK X Y cc own nL rt fr lo nm) : (xs X).vm.findClass own = some (xm X).cls := hC.1.2.2.1
theorem OK.r (hC : OK X Y cc own nL rt fr lo nm) : (xmeth X).sig.returnType = rt := hC.1.2.2.2.2.1
theorem OK.w (hC : OK X Y cc own nL rt fr lo nm) : ∀ w ∈ lwG, w.before (xargs X) (xs X) = true := hC.2.1.1
theorem OK.K (hC : OK X Y cc own nL rt fr lo nm) : va_K (xD X) vwCl (tysC (xcy X)) (xs X) := hC.2.1.2.2
theorem OK.D (hC : OK X Y cc own nL rt fr lo nm) : va_D (xA X) (wl (xcy X) (ya Y) (yn Y) M P) := wl_D hC.2.2.1.1 hC.2.2.1.2.1
theorem OK.n (hC : OK X Y cc own nL rt fr lo nm) {k : Nat} (h : k < nm) : k < yn Y := Nat.lt_of_lt_of_le h hC.2.2.2.1.2.2.2.2
theorem G_cast {L' st' : List AV} {M' : Mem} {P' : PMem} (h : G X Y pc L' st' M' P') (h1 : L = L') (h2 : st = st') (h3 : M = M') (h4 : P = P') : G X Y pc L st M P := by
  subst h1; subst h2; subst h3; subst h4; exact h
/-! constants -/
theorem G_iconst {n : Int} (hC : OK X Y cc own nL rt fr lo nm) (d : decode cc pc = .ok (.iconst n, 1)) (k : G X Y (pc + 1) L (vI n :: st) M P) : G X Y pc L st M P :=
  fun H locs ls h1 h2 h3 => lv_iconst hC.x hC.b d rfl (k H locs ls h1 h2 h3)
theorem G_bipush {n : Int} (hC : OK X Y cc own nL rt fr lo nm) (d : decode cc pc = .ok (.bipush n, 2)) (hn : (Int8.ofInt n).toInt32 = Int32.ofInt n) (k : G X Y (pc + 2) L (vI n :: st) M P) : G X Y pc L st M P :=
  fun H locs ls h1 h2 h3 => lv_bipush hC.x hC.b d hn (k H locs ls h1 h2 h3)
theorem G_sipush {n : Int} (hC : OK X Y cc own nL rt fr lo nm) (d : decode cc pc = .ok (.sipush n, 3)) (hn : (Int16.ofInt n).toInt32 = Int32.ofInt n) (k : G X Y (pc + 3) L (vI n :: st) M P) : G X Y pc L st M P :=
  fun H locs ls h1 h2 h3 => lv_sipush hC.x hC.b d hn (k H locs ls h1 h2 h3)
theorem G_lconst {n : Fin 2} {z : Int} (hC : OK X Y cc own nL rt fr lo nm) (d : decode cc pc = .ok (.lconst n, 1)) (hz : Int64.ofNat (n : Nat) = Int64.ofInt z) (k : G X Y (pc + 1) L (vL z :: st) M P) : G X Y pc L st M P :=
  fun H locs ls h1 h2 h3 => lv_lconst hC.x hC.b d hz (k H locs ls h1 h2 h3)
theorem G_ldc {idx : Nat} {v : Int32} {z : Int} (hC : OK X Y cc own nL rt fr lo nm) (hw : Cond.constant own idx v ∈ lwG) (hv : v = Int32.ofInt z) (d : decode cc pc = .ok (.ldc idx, 2)) (k : G X Y (pc + 2) L (vI z :: st) M P) : G X Y pc L st M P := by
  subst hv
  exact fun H locs ls h1 h2 h3 => lv_ldc hC.x hC.b hC.o (hC.w _ hw) d (k H locs ls h1 h2 h3)
theorem G_ldc2 {idx : Nat} {v : Int64} {z : Int} (hC : OK X Y cc own nL rt fr lo nm) (hw : Cond.constantLong own idx v ∈ lwG) (hv : v = Int64.ofInt z) (d : decode cc pc = .ok (.ldc2_w idx, 3)) (k : G X Y (pc + 3) L (vL z :: st) M P) : G X Y pc L st M P := by
  subst hv
  exact fun H locs ls h1 h2 h3 => lv_ldc2 hC.x hC.b hC.o (hC.w _ hw) d (k H locs ls h1 h2 h3)
/-! locals -/
theorem LH.get {ad : Nat → Nat} {ls : Array Slot} {i : Nat} {v : AV} (h : LH ad ls L) (hi : L[i]? = some v) (hv : isV v = true) : ls[i]? = some (.val (cv ad v)) := h.2.2 i v hi hv
theorem G_iload_n {k : Fin 4} {i : Nat} {z : Int} (hC : OK X Y cc own nL rt fr lo nm) (d : decode cc pc = .ok (.iload_n k, 1)) (hk : (k : Nat) = i) (hi : L[i]? = some (vI z)) (kk : G X Y (pc + 1) L (vI z :: st) M P) : G X Y pc L st M P :=
  fun H locs ls h1 h2 h3 => lv_iload_n hC.x hC.b d hk (h3.get hi rfl) (kk H locs ls h1 h2 h3)
theorem G_iload {i : Nat} {z : Int} (hC : OK X Y cc own nL rt fr lo nm) (d : decode cc pc = .ok (.iload i, 2)) (hi : L[i]? = some (vI z)) (kk : G X Y (pc + 2) L (vI z :: st) M P) : G X Y pc L st M P :=
  fun H locs ls h1 h2 h3 => lv_iload hC.x hC.b d (h3.get hi rfl) (kk H locs ls h1 h2 h3)
theorem G_lload_n {k : Fin 4} {i : Nat} {z : Int} (hC : OK X Y cc own nL rt fr lo nm) (d : decode cc pc = .ok (.lload_n k, 1)) (hk : (k : Nat) = i) (hi : L[i]? = some (vL z)) (kk : G X Y (pc + 1) L (vL z :: st) M P) : G X Y pc L st M P :=
  fun H locs ls h1 h2 h3 => lv_lload_n hC.x hC.b d hk (h3.get hi rfl) (kk H locs ls h1 h2 h3)
theorem G_lload {i : Nat} {z : Int} (hC : OK X Y cc own nL rt fr lo nm) (d : decode cc pc = .ok (.lload i, 2)) (hi : L[i]? = some (vL z)) (kk : G X Y (pc + 2) L (vL z :: st) M P) : G X Y pc L st M P :=
  fun H locs ls h1 h2 h3 => lv_lload hC.x hC.b d (h3.get hi rfl) (kk H locs ls h1 h2 h3)
theorem G_aload_n {k : Fin 4} {i : Nat} {z : Nat} (hC : OK X Y cc own nL rt fr lo nm) (d : decode cc pc = .ok (.aload_n k, 1)) (hk : (k : Nat) = i) (hi : L[i]? = some (vR z)) (kk : G X Y (pc + 1) L (vR z :: st) M P) : G X Y pc L st M P :=
  fun H locs ls h1 h2 h3 => lv_aload_n hC.x hC.b d hk (h3.get hi rfl) (kk H locs ls h1 h2 h3)
theorem G_aload {i : Nat} {z : Nat} (hC : OK X Y cc own nL rt fr lo nm) (d : decode cc pc = .ok (.aload i, 2)) (hi : L[i]? = some (vR z)) (kk : G X Y (pc + 2) L (vR z :: st) M P) : G X Y pc L st M P :=
  fun H locs ls h1 h2 h3 => lv_aload hC.x hC.b d (h3.get hi rfl) (kk H locs ls h1 h2 h3)
/-- what is known of the locals, as the kit's rows have it -/
def lvAs (ad : Nat → Nat) (i : Nat) : List AV → List (Nat × Value)
  | [] => []
  | v :: l => if isV v = true then (i, cv ad v) :: lvAs ad (i + 1) l else lvAs ad (i + 1) l
theorem lvAs_mem {ad : Nat → Nat} : ∀ (l : List AV) (i : Nat) (q : Nat × Value), q ∈ lvAs ad i l ↔ ∃ j v, l[j]? = some v ∧ isV v = true ∧ q = (i + j, cv ad v)
  | [], i, q => by simp [lvAs]
  | v :: l, i, q => by
    have ih := lvAs_mem (ad := ad) l (i + 1) q
    unfold lvAs
    constructor
    · intro h
      by_cases hv : isV v = true
      · rw [if_pos hv] at h
        rcases List.mem_cons.mp h with h | h
        · exact ⟨0, v, rfl, hv, by simpa using h⟩
        · obtain ⟨j, w, a, b, c⟩ := ih.mp h
          exact ⟨j + 1, w, by simpa using a, b, by rw [c]; congr 1; omega⟩
      · rw [if_neg hv] at h
        obtain ⟨j, w, a, b, c⟩ := ih.mp h
        exact ⟨j + 1, w, by simpa using a, b, by rw [c]; congr 1; omega⟩
    · rintro ⟨j, w, a, b, c⟩
      cases j with
      | zero =>
        have : v = w := by simpa using a
        subst this
        rw [if_pos b]
        exact List.mem_cons.mpr (Or.inl (by simpa using c))
      | succ j =>
        have h2 := ih.mpr ⟨j, w, by simpa using a, b, by rw [c]; congr 1; omega⟩
        by_cases hv : isV v = true
        · rw [if_pos hv]; exact List.mem_cons_of_mem _ h2
        · rw [if_neg hv]; exact h2
theorem LH.has {ad : Nat → Nat} {ls : Array Slot} (h : LH ad ls L) : lv_has ls L.length (lvAs ad 0 L) := by
  refine ⟨h.1, h.2.1, fun q hq => ?_⟩
  obtain ⟨j, v, a, b, rfl⟩ := (lvAs_mem L 0 q).mp hq
  simpa using h.2.2 j v a b
theorem cv_cat2 {ad : Nat → Nat} {v : AV} (h : isC2 v = false) : ((cv ad v).category == 2) = false := by
  rcases v with z | z | z | z
  · rfl
  · simp [isC2] at h
  · rfl
  · rfl
/-- behind a store of one slot: the place before it holds no long -/
theorem LH.st1 {ad : Nat → Nat} {ls : Array Slot} {i : Nat} {v : AV} {L' : List AV} (hl : lv_has ls L.length ((i, cv ad v) :: (lvAs ad 0 L).filter (fun q => !(q.1 == i) && !(q.1 + 1 == i && q.2.category == 2)))) (hL : L' = L.set i v) (hp : ∀ w, i ≠ 0 → L[i - 1]? = some w → isC2 w = false) (hv : isV v = true) : LH ad ls L' := by
  subst hL
  refine ⟨by rw [List.length_set]; exact hl.1, hl.2.1, fun j w hj hw => ?_⟩
  by_cases hji : j = i
  · subst hji
    have hlt : j < L.length := by
      have := (List.getElem?_eq_some_iff.mp hj).1
      simpa using this
    rw [List.getElem?_set_self hlt] at hj
    cases hj
    exact hl.2.2 (j, cv ad v) List.mem_cons_self
  · rw [List.getElem?_set_ne (fun e => hji e.symm)] at hj
    have hm : (j, cv ad w) ∈ lvAs ad 0 L := (lvAs_mem L 0 _).mpr ⟨j, w, hj, hw, by simp⟩
    refine hl.2.2 (j, cv ad w) (List.mem_cons_of_mem _ (List.mem_filter.mpr ⟨hm, ?_⟩))
    have e1 : (j == i) = false := by simpa using hji
    have e2 : ((j + 1 == i) && (cv ad w).category == 2) = false := by
      by_cases h : j + 1 = i
      · have : isC2 w = false := hp w (by omega) (by rw [show i - 1 = j by omega]; exact hj)
        rw [cv_cat2 this]; simp
      · have : (j + 1 == i) = false := by simpa using h
        rw [this]; rfl
    simp only [e1, e2]; rfl
theorem LH.st2 {ad : Nat → Nat} {ls : Array Slot} {i : Nat} {v : AV} {L' : List AV} (hl : lv_has ls L.length ((i, cv ad v) :: (lvAs ad 0 L).filter (fun q => !(q.1 == i) && (!(q.1 == i + 1) && !(q.1 + 1 == i && q.2.category == 2))))) (hL : L' = (L.set i v).set (i + 1) (vX 1)) (hp : ∀ w, i ≠ 0 → L[i - 1]? = some w → isC2 w = false) (hv : isV v = true) : LH ad ls L' := by
  subst hL
  refine ⟨by rw [List.length_set, List.length_set]; exact hl.1, hl.2.1, fun j w hj hw => ?_⟩
  by_cases hj1 : j = i + 1
  · subst hj1
    have hlt : i + 1 < (L.set i v).length := by
      have := (List.getElem?_eq_some_iff.mp hj).1
      simpa using this
    rw [List.getElem?_set_self hlt] at hj
    cases hj
    simp [isV] at hw
  · rw [List.getElem?_set_ne (fun e => hj1 e.symm)] at hj
    by_cases hji : j = i
    · subst hji
      have hlt : j < L.length := by
        have := (List.getElem?_eq_some_iff.mp hj).1
        simpa using this
      rw [List.getElem?_set_self hlt] at hj
      cases hj
      exact hl.2.2 (j, cv ad v) List.mem_cons_self
    · rw [List.getElem?_set_ne (fun e => hji e.symm)] at hj
      have hm : (j, cv ad w) ∈ lvAs ad 0 L := (lvAs_mem L 0 _).mpr ⟨j, w, hj, hw, by simp⟩
      refine hl.2.2 (j, cv ad w) (List.mem_cons_of_mem _ (List.mem_filter.mpr ⟨hm, ?_⟩))
      have e1 : (j == i) = false := by simpa using hji
      have e3 : (j == i + 1) = false := by simpa using hj1
      have e2 : ((j + 1 == i) && (cv ad w).category == 2) = false := by
        by_cases h : j + 1 = i
        · have : isC2 w = false := hp w (by omega) (by rw [show i - 1 = j by omega]; exact hj)
          rw [cv_cat2 this]; simp
        · have : (j + 1 == i) = false := by simpa using h
          rw [this]; rfl
      simp only [e1, e2, e3]; rfl
/-- the place before i holds no long -/
def noL (L : List AV) (i : Nat) : Bool := match i with
  | 0 => true
  | j + 1 => match L[j]? with
    | some w => !isC2 w
    | none => true
theorem noL_ok {i : Nat} (h : noL L i = true) : ∀ w, i ≠ 0 → L[i - 1]? = some w → isC2 w = false := by
  intro w h0 hw
  cases i with
  | zero => exact absurd rfl h0
  | succ j =>
    simp only [noL, Nat.add_sub_cancel] at h hw
    rw [hw] at h
    simpa using h
theorem G_istore_n {k : Fin 4} {i : Nat} {z : Int} {L' : List AV} (hC : OK X Y cc own nL rt fr lo nm) (d : decode cc pc = .ok (.istore_n k, 1)) (hk : (k : Nat) = i) (hi : i < L.length) (hn : noL L i = true) (hL : L' = L.set i (vI z)) (kk : G X Y (pc + 1) L' st M P) : G X Y pc L (vI z :: st) M P :=
  fun H locs ls h1 h2 h3 => lv_istore_n hC.x hC.b d hk h3.has hi rfl (fun ls' hl => kk H locs ls' h1 h2 (LH.st1 (v := vI z) hl hL (noL_ok hn) rfl))
theorem G_istore {i : Nat} {z : Int} {L' : List AV} (hC : OK X Y cc own nL rt fr lo nm) (d : decode cc pc = .ok (.istore i, 2)) (hi : i < L.length) (hn : noL L i = true) (hL : L' = L.set i (vI z)) (kk : G X Y (pc + 2) L' st M P) : G X Y pc L (vI z :: st) M P :=
  fun H locs ls h1 h2 h3 => lv_istore hC.x hC.b d h3.has hi rfl (fun ls' hl => kk H locs ls' h1 h2 (LH.st1 (v := vI z) hl hL (noL_ok hn) rfl))
theorem G_astore_n {k : Fin 4} {i : Nat} {z : Nat} {L' : List AV} (hC : OK X Y cc own nL rt fr lo nm) (d : decode cc pc = .ok (.astore_n k, 1)) (hk : (k : Nat) = i) (hi : i < L.length) (hn : noL L i = true) (hL : L' = L.set i (vR z)) (kk : G X Y (pc + 1) L' st M P) : G X Y pc L (vR z :: st) M P :=
  fun H locs ls h1 h2 h3 => lv_astore_n hC.x hC.b d hk h3.has hi rfl (fun ls' hl => kk H locs ls' h1 h2 (LH.st1 (v := vR z) hl hL (noL_ok hn) rfl))
theorem G_astore {i : Nat} {z : Nat} {L' : List AV} (hC : OK X Y cc own nL rt fr lo nm) (d : decode cc pc = .ok (.astore i, 2)) (hi : i < L.length) (hn : noL L i = true) (hL : L' = L.set i (vR z)) (kk : G X Y (pc + 2) L' st M P) : G X Y pc L (vR z :: st) M P :=
  fun H locs ls h1 h2 h3 => lv_astore hC.x hC.b d h3.has hi rfl (fun ls' hl => kk H locs ls' h1 h2 (LH.st1 (v := vR z) hl hL (noL_ok hn) rfl))
theorem G_lstore_n {k : Fin 4} {i : Nat} {z : Int} {L' : List AV} (hC : OK X Y cc own nL rt fr lo nm) (d : decode cc pc = .ok (.lstore_n k, 1)) (hk : (k : Nat) = i) (hi : i + 1 < L.length) (hn : noL L i = true) (hL : L' = (L.set i (vL z)).set (i + 1) (vX 1)) (kk : G X Y (pc + 1) L' st M P) : G X Y pc L (vL z :: st) M P :=
  fun H locs ls h1 h2 h3 => lv_lstore_n hC.x hC.b d hk h3.has hi rfl (fun ls' hl => kk H locs ls' h1 h2 (LH.st2 (v := vL z) hl hL (noL_ok hn) rfl))
theorem G_lstore {i : Nat} {z : Int} {L' : List AV} (hC : OK X Y cc own nL rt fr lo nm) (d : decode cc pc = .ok (.lstore i, 2)) (hi : i + 1 < L.length) (hn : noL L i = true) (hL : L' = (L.set i (vL z)).set (i + 1) (vX 1)) (kk : G X Y (pc + 2) L' st M P) : G X Y pc L (vL z :: st) M P :=
  fun H locs ls h1 h2 h3 => lv_lstore hC.x hC.b d h3.has hi rfl (fun ls' hl => kk H locs ls' h1 h2 (LH.st2 (v := vL z) hl hL (noL_ok hn) rfl))
theorem G_iinc {i : Nat} {c z : Int} {L' : List AV} (hC : OK X Y cc own nL rt fr lo nm) (d : decode cc pc = .ok (.iinc i c, 3)) (hg : L[i]? = some (vI z)) (hn : noL L i = true) (hL : L' = L.set i (vI (z + c))) (kk : G X Y (pc + 3) L' st M P) : G X Y pc L st M P := by
  intro H locs ls h1 h2 h3
  have hi : i < L.length := (List.getElem?_eq_some_iff.mp hg).1
  obtain ⟨k, hk⟩ := List.getElem?_of_mem ((lvAs_mem (ad := ya Y) L 0 (i, cv (ya Y) (vI z))).mpr ⟨i, vI z, hg, rfl, by simp⟩)
  exact lv_iinc hC.x hC.b d h3.has hk (show Int32.ofInt z + Int32.ofInt c = Int32.ofInt (z + c) from (Int32.ofInt_add z c).symm) hi rfl (fun ls' hl => kk H locs ls' h1 h2 (LH.st1 (v := vI (z + c)) hl hL (noL_ok hn) rfl))
/-! arithmetic -/
theorem G_iadd {a b : Int} (hC : OK X Y cc own nL rt fr lo nm) (d : decode cc pc = .ok (.iadd, 1)) (k : G X Y (pc + 1) L (vI (a + b) :: st) M P) : G X Y pc L (vI b :: vI a :: st) M P := by
  intro H locs ls h1 h2 h3
  have h := k H locs ls h1 h2 h3
  simp only [List.map, cv, Int32.ofInt_add] at h ⊢
  exact lv_iadd hC.x hC.b d h
theorem G_isub {a b : Int} (hC : OK X Y cc own nL rt fr lo nm) (d : decode cc pc = .ok (.isub, 1)) (k : G X Y (pc + 1) L (vI (a - b) :: st) M P) : G X Y pc L (vI b :: vI a :: st) M P := by
  intro H locs ls h1 h2 h3
  have h := k H locs ls h1 h2 h3
  simp only [List.map, cv, Int32.ofInt_sub] at h ⊢
  exact lv_isub hC.x hC.b d h
theorem G_imul {a b : Int} (hC : OK X Y cc own nL rt fr lo nm) (d : decode cc pc = .ok (.imul, 1)) (k : G X Y (pc + 1) L (vI (a * b) :: st) M P) : G X Y pc L (vI b :: vI a :: st) M P := by
  intro H locs ls h1 h2 h3
  have h := k H locs ls h1 h2 h3
  simp only [List.map, cv, Int32.ofInt_mul] at h ⊢
  exact lv_imul hC.x hC.b d h
theorem G_ineg {a : Int} (hC : OK X Y cc own nL rt fr lo nm) (d : decode cc pc = .ok (.ineg, 1)) (k : G X Y (pc + 1) L (vI (-a) :: st) M P) : G X Y pc L (vI a :: st) M P := by
  intro H locs ls h1 h2 h3
  have h := k H locs ls h1 h2 h3
  simp only [List.map, cv, Int32.ofInt_neg] at h ⊢
  exact lv_ineg hC.x hC.b d h
theorem G_ladd {a b : Int} (hC : OK X Y cc own nL rt fr lo nm) (d : decode cc pc = .ok (.ladd, 1)) (k : G X Y (pc + 1) L (vL (a + b) :: st) M P) : G X Y pc L (vL b :: vL a :: st) M P := by
  intro H locs ls h1 h2 h3
  have h := k H locs ls h1 h2 h3
  simp only [List.map, cv, Int64.ofInt_add] at h ⊢
  exact lv_ladd hC.x hC.b d h
theorem G_lsub {a b : Int} (hC : OK X Y cc own nL rt fr lo nm) (d : decode cc pc = .ok (.lsub, 1)) (k : G X Y (pc + 1) L (vL (a - b) :: st) M P) : G X Y pc L (vL b :: vL a :: st) M P := by
  intro H locs ls h1 h2 h3
  have h := k H locs ls h1 h2 h3
  simp only [List.map, cv, Int64.ofInt_sub] at h ⊢
  exact lv_lsub hC.x hC.b d h
theorem G_lmul {a b : Int} (hC : OK X Y cc own nL rt fr lo nm) (d : decode cc pc = .ok (.lmul, 1)) (k : G X Y (pc + 1) L (vL (a * b) :: st) M P) : G X Y pc L (vL b :: vL a :: st) M P := by
  intro H locs ls h1 h2 h3
  have h := k H locs ls h1 h2 h3
  simp only [List.map, cv, Int64.ofInt_mul] at h ⊢
  exact lv_lmul hC.x hC.b d h
end LAY
