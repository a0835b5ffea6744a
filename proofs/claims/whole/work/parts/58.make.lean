/-! making cells -/
def zM (M : Mem) (n : Nat) : Mem := fun a b => if a = n then 0 else M a b
def zP (P : PMem) (n : Nat) : PMem := fun a b => if a = n then none else P a b
def PB (P : PMem) (n : Nat) : Prop := ∀ i j q, i < n → P i j = some q → q < n
theorem PB_z {P : PMem} {n : Nat} (h : PB P n) : PB (zP P n) (n + 1) := fun i j q hi e => by
  unfold zP at e
  by_cases z : i = n
  · rw [if_pos z] at e; cases e
  · rw [if_neg z] at e; have := h i j q (by omega) e; omega
theorem PB_up {P : PMem} {n k j q : Nat} (h : PB P n) (hq : q < n) : PB (upP P k j (some q)) n := fun i b r hi e => by
  unfold upP at e
  by_cases z : i = k ∧ b = j
  · rw [if_pos z] at e; cases e; exact hq
  · rw [if_neg z] at e; exact h i b r hi e
def dvK : Nat → Value
  | 0 => .int 0
  | 1 => .long 0
  | _ => .null
theorem fvl_z {ad : Nat → Nat} {M : Mem} {P : PMem} {n j kd : Nat} : fvl ad (zM M n) (zP P n) n j kd = dvK kd := by
  unfold fvl dvK zM zP
  split <;> simp [va_rf] <;> rfl
theorem fs_zero {ad : Nat → Nat} {M : Mem} {P : PMem} {n ci : Nat} : (fks ci).mapIdx (fun j kd => fvl ad (zM M n) (zP P n) n j kd) = (fks ci).map dvK := by
  apply List.ext_getElem?
  intro j
  rw [List.getElem?_mapIdx, List.getElem?_map]
  cases (fks ci)[j]? with
  | none => rfl
  | some kd => simp [fvl_z]
theorem fvl_ad {ad ad' : Nat → Nat} {M M' : Mem} {P P' : PMem} {k : Nat} (hM : ∀ j, M' k j = M k j) (hP : ∀ j, P' k j = P k j) (ha : ∀ j q, P k j = some q → ad' q = ad q) (j kd : Nat) : fvl ad' M' P' k j kd = fvl ad M P k j kd := by
  unfold fvl
  split
  · rw [hM]
  · rw [hM]
  · rw [hP]
    cases h : P k j with
    | none => rfl
    | some q => simp [ha j q h]
theorem ce_ad {cy : CYT} {ad ad' : Nat → Nat} {M M' : Mem} {P P' : PMem} {k : Nat} (hM : ∀ j, M' k j = M k j) (hP : ∀ j, P' k j = P k j) (ha : ∀ j q, P k j = some q → ad' q = ad q) : ce cy ad' M' P' k = ce cy ad M P k := by
  unfold ce ceS
  simp only [hM, fvl_ad hM hP ha]
theorem wl_ad {cy : CYT} {ad ad' : Nat → Nat} {n : Nat} {M : Mem} {P : PMem} (hB : PB P n) (ha : ∀ k, k < n → ad' k = ad k) : wl cy ad' n M P = wl cy ad n M P := by
  unfold wl
  refine List.map_congr_left (fun k hk => ?_)
  have hkn : k < n := List.mem_range.mp hk
  rw [ha k hkn, ce_ad (fun _ => rfl) (fun _ => rfl) (fun j q e => ha q (hB k j q hkn e))]
theorem zM_o {M : Mem} {n a : Nat} (h : a ≠ n) (b : Nat) : zM M n a b = M a b := by unfold zM; rw [if_neg h]
theorem zP_o {P : PMem} {n a : Nat} (h : a ≠ n) (b : Nat) : zP P n a b = P a b := by unfold zP; rw [if_neg h]
def rO2 (n n' : Nat) : AV → Bool
  | .inr (.inr (.inl k)) => decide (k < n) || decide (n' ≤ k)
  | _ => true
theorem cv_ext2 {ad ad' : Nat → Nat} {n n' : Nat} (h : ∀ k, k < n ∨ n' ≤ k → ad' k = ad k) {v : AV} (hv : rO2 n n' v = true) : cv ad' v = cv ad v := by
  rcases v with z | z | k | z
  · rfl
  · rfl
  · have : k < n ∨ n' ≤ k := by simpa [rO2] using hv
    simp [cv, h k this]
  · rfl
theorem LH_ext2 {ad ad' : Nat → Nat} {n n' : Nat} {ls : Array Slot} {L : List AV} (h : ∀ k, k < n ∨ n' ≤ k → ad' k = ad k) (hr : L.all (rO2 n n') = true) (hl : LH ad ls L) : LH ad' ls L := by
  refine ⟨hl.1, hl.2.1, fun i v hi hv => ?_⟩
  rw [cv_ext2 h (List.all_eq_true.mp hr v (List.mem_of_getElem? hi))]
  exact hl.2.2 i v hi hv
theorem map_ext2 {ad ad' : Nat → Nat} {n n' : Nat} (h : ∀ k, k < n ∨ n' ≤ k → ad' k = ad k) : ∀ {l : List AV}, l.all (rO2 n n') = true → l.map (cv ad') = l.map (cv ad)
  | [], _ => rfl
  | v :: l, hr => by
    simp only [List.all_cons, Bool.and_eq_true] at hr
    rw [List.map_cons, List.map_cons, cv_ext2 h hr.1, map_ext2 h hr.2]
section MAKE
variable {X : CX} {Y : CY} {cc : ByteArray} {own : String} {nL : Nat} {rt : Option FieldType} {fr lo nm : Nat} {pc : Nat} {L st : List AV} {M : Mem} {P : PMem} {Q : Option AV → Mem → PMem → Prop}
theorem OK.up {nm' : Nat} (hC : OK X Y cc own nL rt fr lo nm) (h : nm' ≤ yn Y) : OK X Y cc own nL rt fr lo nm' := by
  obtain ⟨c1, c2, c3, ⟨f1, f2, f3, f4, f5⟩, c5⟩ := hC
  exact ⟨c1, c2, c3, ⟨f1, f2, f3, f4, h⟩, c5⟩
theorem OK_push {ad : Nat → Nat} {n c s q c' s' : Nat} (hC : OK X (ad, n, c, s) cc own nL rt fr lo nm) (hq : (xs X).heap.size ≤ q) (hlt : ∀ k, k < n → ad k < q) (h1 : c' ≤ (xR X).cells) (h2 : s' ≤ (xR X).slots) : OK X (va_up ad n q, n + 1, c', s') cc own nL rt fr lo (n + 1) := by
  obtain ⟨c1, c2, ⟨d1, d2, d3⟩, ⟨f1, f2, f3, f4, f5⟩, ⟨g1, g2, g3, g4⟩⟩ := hC
  have d1' : injA ad n := d1
  have d2' : ∀ i, i < n → xA X (ad i) := d2
  have g1' : xn X ≤ n := g1
  have g2' : ∀ k, k < xn X → ad k = xad X k := g2
  have g3' : ∀ k, xn X ≤ k → k < n → (xs X).heap.size ≤ ad k := g3
  refine ⟨c1, c2, ⟨fun i j hi hj e => ?_, fun i hi => ?_, d3⟩, ⟨f1, f2, h1, h2, Nat.le_refl _⟩, ⟨Nat.le_succ_of_le g1', fun k hk => ?_, fun k hk1 hk2 => ?_, fun e => ?_⟩⟩
  · have hi' : i < n + 1 := hi
    have hj' : j < n + 1 := hj
    have e' : va_up ad n q i = va_up ad n q j := e
    by_cases z : i = n
    · by_cases y : j = n
      · omega
      · rw [z, va_up_self, va_up_ne _ _ y] at e'
        have := hlt j (by omega)
        omega
    · by_cases y : j = n
      · rw [y, va_up_self, va_up_ne _ _ z] at e'
        have := hlt i (by omega)
        omega
      · rw [va_up_ne _ _ z, va_up_ne _ _ y] at e'
        exact d1' i j (by omega) (by omega) e'
  · show xA X (va_up ad n q i)
    have hi' : i < n + 1 := hi
    by_cases z : i = n
    · rw [z, va_up_self]; exact d3 q hq
    · rw [va_up_ne _ _ z]; exact d2' i (by omega)
  · show va_up ad n q k = xad X k
    rw [va_up_ne _ _ (by omega)]; exact g2' k hk
  · show (xs X).heap.size ≤ va_up ad n q k
    have hk' : k < n + 1 := hk2
    by_cases z : k = n
    · rw [z, va_up_self]; exact hq
    · rw [va_up_ne _ _ z]; exact g3' k hk1 (by omega)
  · exfalso
    have e' : n + 1 = xn X := e
    omega
theorem wl_lt {cy : CYT} {D : va_G} {ad : Nat → Nat} {n : Nat} {H : Heap} (h : va_P D vwCl (wl cy ad n M P) H) : ∀ k, k < n → ad k < H.size := fun k hk => (h k _ (wl_get hk)).lt
theorem G_push {ad : Nat → Nat} {n c s c' s' : Nat} {H H1 : Heap} {locs : List Loc} {ls : Array Slot} {e : va_E} {pc' : Nat} (hC : OK X (ad, n, c, s) cc own nL rt fr lo nm) (hB : PB P n) (hcs : c' ≤ (xR X).cells) (hsl : s' ≤ (xR X).slots) (hrl : L.all (rO2 n (n + 1)) = true) (hrs : st.all (rO2 n (n + 1)) = true)
    (h1 : va_P (xD X) vwCl (wl (xcy X) ad n M P) H) (h2 : va_S (xA X) (xs X).heap H locs) (h3 : LH ad ls L) (hP1 : va_P (xD X) vwCl (wl (xcy X) ad n M P ++ [(H.size, e)]) H1) (z1 : H1.size = H.size + 1) (o1 : ∀ q, q < H.size → H1[q]? = H[q]?) (he : ce (xcy X) (va_up ad n H.size) (zM M n) (zP P n) n = e)
    (kk : ∀ ad', (∀ k, k < n ∨ n + 1 ≤ k → ad' k = ad k) → OK X (ad', n + 1, c', s') cc own nL rt fr lo (n + 1) → G X (ad', n + 1, c', s') pc' L (vR n :: st) (zM M n) (zP P n)) : WW X (ad, n, c', s') H1 locs (F0 (xm X) pc' ls (.ref H.size :: st.map (cv ad))) := by
  have hext : ∀ k, k < n ∨ n + 1 ≤ k → va_up ad n H.size k = ad k := fun k hk => va_up_ne _ _ (by omega)
  have hpu := wl_push (cy := xcy X) (ad := ad) (n := n) (q := H.size) (M := M) (M' := zM M n) (P := P) (P' := zP P n) (fun i hi => ce_ad (fun j => zM_o (by omega) j) (fun j => zP_o (by omega) j) (fun j q e => hext q (Or.inl (hB i j q hi e))))
  rw [he] at hpu
  rw [hpu] at hP1
  have hS1 : va_S (xA X) (xs X).heap H1 locs := ⟨Nat.le_trans h2.1 (by omega), fun x a b => (o1 x (Nat.lt_of_lt_of_le a h2.1)).trans (h2.2.1 x a b), h2.2.2⟩
  have hw := kk (va_up ad n H.size) hext (OK_push hC h2.1 (wl_lt h1) hcs hsl) H1 locs ls hP1 hS1 (LH_ext2 hext hrl h3)
  have e2 : (vR n :: st).map (cv (va_up ad n H.size)) = .ref H.size :: st.map (cv ad) := by
    rw [List.map_cons, map_ext2 hext hrs]
    show Value.ref (va_up ad n H.size n) :: _ = _
    rw [va_up_self]
  rw [show ya (va_up ad n H.size, n + 1, c', s') = va_up ad n H.size from rfl, e2] at hw
  exact hw
def NW (own : String) (idx ci : Nat) (C : String) (T : u_T) (N : Nat) (ty : Nat → FieldType) : Prop := CL ci C T N ty ∧ Cond.classLink own idx C ∈ lwG ∧ Cond.instantiable C N ∈ lwG ∧ Cond.initialized C ∈ lwG ∧ ∀ j, j < N → defaultValue (ty j) = vp_V ((fks ci).map dvK) j
theorem G_new {ad : Nat → Nat} {n c s ci N idx : Nat} {C : String} {T : u_T} {ty : Nat → FieldType} (hC : OK X (ad, n, c, s) cc own nL rt fr lo nm) (hw : NW own idx ci C T N ty) (hs : shp n = (ci, 0)) (hB : PB P n) (hcs : c + 1 ≤ (xR X).cells) (hsl : s + N ≤ (xR X).slots) (hrl : L.all (rO2 n (n + 1)) = true) (hrs : st.all (rO2 n (n + 1)) = true) (d : decode cc pc = .ok (.new idx, 3))
    (kk : ∀ ad', (∀ k, k < n ∨ n + 1 ≤ k → ad' k = ad k) → OK X (ad', n + 1, c + 1, s + N) cc own nL rt fr lo (n + 1) → G X (ad', n + 1, c + 1, s + N) (pc + 3) L (vR n :: st) (zM M n) (zP P n)) : G X (ad, n, c, s) pc L st M P := by
  obtain ⟨⟨hc, hin, hty, hnm, hfk, hci⟩, w1, w2, w3, hdv⟩ := hw
  intro H locs ls h1 h2 h3
  have hKn := hC.K.1 ci _ hc
  refine W.newcK hC.x hC.b hC.o (hC.w _ w1) (hC.w _ w2) (hC.w _ w3) (g := F0 (xm X) pc ls (st.map (cv ad))) rfl d hcs hsl hKn.2.1 rfl fun H1 kC hkC e1 z1 o1 => ?_
  have hk : ∀ (k : Nat) (x : Nat × va_E), (wl (xcy X) ad n M P)[k]? = some x → H1[x.1]? = H[x.1]? := fun k x hx => o1 x.1 ((h1 k x hx).lt)
  have hP1 : va_P (xD X) vwCl (wl (xcy X) ad n M P ++ [(H.size, .inr (ci, (fks ci).map dvK))]) H1 := (va_P.kept h1 hk).app (fun k x hx => by
    have hz : k < 1 := (List.getElem?_eq_some_iff.mp hx).1
    rw [show k = 0 by omega] at hx
    cases hx
    exact ⟨_, hc, (u_born ty hC.w hin hKn hkC e1 hty).to hdv⟩)
  exact G_push hC hB hcs hsl hrl hrs h1 h2 h3 hP1 z1 o1 (by rw [ceS_obj hs hci, fs_zero]) kk
theorem i32_nn {z : Nat} (h : z < 2 ^ 31) : ¬ Int32.ofInt (z : Int) < 0 ∧ (Int32.ofInt (z : Int)).toNatClampNeg = z := by
  rw [i32_N z h]
  exact ⟨nI_pos h, nI_clamp h⟩
theorem G_newI {ad : Nat → Nat} {n c s z : Nat} {v : Int} (hC : OK X (ad, n, c, s) cc own nL rt fr lo nm) (hw : Cond.arrayClass .int ∈ lwG) (hs : shp n = (11, z)) (hv : v = (z : Int)) (hB : PB P n) (hcs : c + 1 ≤ (xR X).cells) (hsl : s + z ≤ (xR X).slots) (hrl : L.all (rO2 n (n + 1)) = true) (hrs : st.all (rO2 n (n + 1)) = true) (d : decode cc pc = .ok (.newarray .int, 2))
    (kk : ∀ ad', (∀ k, k < n ∨ n + 1 ≤ k → ad' k = ad k) → OK X (ad', n + 1, c + 1, s + z) cc own nL rt fr lo (n + 1) → G X (ad', n + 1, c + 1, s + z) (pc + 2) L (vR n :: st) (zM M n) (zP P n)) : G X (ad, n, c, s) pc L (vI v :: st) M P := by
  subst hv
  intro H locs ls h1 h2 h3
  have hz : z ≤ 46656 := by have := shp_le n; rw [hs] at this; exact this
  have hnn := i32_nn (z := z) (by omega)
  refine va_newaK (atype := .int) hC.x hC.b (hC.w _ hw) (g := F0 (xm X) pc ls (.int (Int32.ofInt (z : Int)) :: st.map (cv ad))) rfl d rfl hnn.1 hnn.2 (Nat.le_trans (Nat.mul_le_mul_left z (show componentBytes .int ≤ 8 by decide)) (by omega)) hcs hsl rfl fun H1 cA e1 z1 o1 hAr hNm => ?_
  have hcA : cA = (xcy X).1 := by
    have h := (hC.K.2 0 _ rfl).2
    have h' : (xs X).vm.findClass ("[" ++ (.int : FieldType).toString) = some (xcy X).1 := h
    exact Option.some.inj (hNm.symm.trans h')
  have hk : ∀ (k : Nat) (x : Nat × va_E), (wl (xcy X) ad n M P)[k]? = some x → H1[x.1]? = H[x.1]? := fun k x hx => o1 x.1 ((h1 k x hx).lt)
  have hP1 : va_P (xD X) vwCl (wl (xcy X) ad n M P ++ [(H.size, .inl ((xcy X).1, z, .inl (fun _ => (0 : Int32))))]) H1 := (va_P.kept h1 hk).app (fun k x hx => by
    have hz : k < 1 := (List.getElem?_eq_some_iff.mp hx).1
    rw [show k = 0 by omega] at hx
    cases hx
    rw [← hcA]
    exact e1)
  exact G_push hC hB hcs hsl hrl hrs h1 h2 h3 hP1 z1 o1 (by
    rw [ceS_I hs]
    have : ∀ j, zM M n n j = 0 := fun j => by unfold zM; rw [if_pos rfl]
    simp only [this]
    rfl) kk
theorem G_newJ {ad : Nat → Nat} {n c s z : Nat} {v : Int} (hC : OK X (ad, n, c, s) cc own nL rt fr lo nm) (hw : Cond.arrayClass .long ∈ lwG) (hs : shp n = (12, z)) (hv : v = (z : Int)) (hB : PB P n) (hcs : c + 1 ≤ (xR X).cells) (hsl : s + z ≤ (xR X).slots) (hrl : L.all (rO2 n (n + 1)) = true) (hrs : st.all (rO2 n (n + 1)) = true) (d : decode cc pc = .ok (.newarray .long, 2))
    (kk : ∀ ad', (∀ k, k < n ∨ n + 1 ≤ k → ad' k = ad k) → OK X (ad', n + 1, c + 1, s + z) cc own nL rt fr lo (n + 1) → G X (ad', n + 1, c + 1, s + z) (pc + 2) L (vR n :: st) (zM M n) (zP P n)) : G X (ad, n, c, s) pc L (vI v :: st) M P := by
  subst hv
  intro H locs ls h1 h2 h3
  have hz : z ≤ 46656 := by have := shp_le n; rw [hs] at this; exact this
  have hnn := i32_nn (z := z) (by omega)
  refine va_newaK (atype := .long) hC.x hC.b (hC.w _ hw) (g := F0 (xm X) pc ls (.int (Int32.ofInt (z : Int)) :: st.map (cv ad))) rfl d rfl hnn.1 hnn.2 (Nat.le_trans (Nat.mul_le_mul_left z (show componentBytes .long ≤ 8 by decide)) (by omega)) hcs hsl rfl fun H1 cA e1 z1 o1 hAr hNm => ?_
  have hcA : cA = (xcy X).2.1 := by
    have h := (hC.K.2 1 _ rfl).2
    have h' : (xs X).vm.findClass ("[" ++ (.long : FieldType).toString) = some (xcy X).2.1 := h
    exact Option.some.inj (hNm.symm.trans h')
  have hk : ∀ (k : Nat) (x : Nat × va_E), (wl (xcy X) ad n M P)[k]? = some x → H1[x.1]? = H[x.1]? := fun k x hx => o1 x.1 ((h1 k x hx).lt)
  have hP1 : va_P (xD X) vwCl (wl (xcy X) ad n M P ++ [(H.size, .inl ((xcy X).2.1, z, .inr (.inl (fun _ => (0 : Int64)))))]) H1 := (va_P.kept h1 hk).app (fun k x hx => by
    have hz : k < 1 := (List.getElem?_eq_some_iff.mp hx).1
    rw [show k = 0 by omega] at hx
    cases hx
    rw [← hcA]
    exact e1)
  exact G_push hC hB hcs hsl hrl hrs h1 h2 h3 hP1 z1 o1 (by
    rw [ceS_J hs]
    have : ∀ j, zM M n n j = 0 := fun j => by unfold zM; rw [if_pos rfl]
    simp only [this]
    rfl) kk
theorem G_newZ {ad : Nat → Nat} {n c s z : Nat} {v : Int} (hC : OK X (ad, n, c, s) cc own nL rt fr lo nm) (hw : Cond.arrayClass .boolean ∈ lwG) (hs : shp n = (13, z)) (hv : v = (z : Int)) (hB : PB P n) (hcs : c + 1 ≤ (xR X).cells) (hsl : s + z ≤ (xR X).slots) (hrl : L.all (rO2 n (n + 1)) = true) (hrs : st.all (rO2 n (n + 1)) = true) (d : decode cc pc = .ok (.newarray .boolean, 2))
    (kk : ∀ ad', (∀ k, k < n ∨ n + 1 ≤ k → ad' k = ad k) → OK X (ad', n + 1, c + 1, s + z) cc own nL rt fr lo (n + 1) → G X (ad', n + 1, c + 1, s + z) (pc + 2) L (vR n :: st) (zM M n) (zP P n)) : G X (ad, n, c, s) pc L (vI v :: st) M P := by
  subst hv
  intro H locs ls h1 h2 h3
  have hz : z ≤ 46656 := by have := shp_le n; rw [hs] at this; exact this
  have hnn := i32_nn (z := z) (by omega)
  refine va_newaK (atype := .boolean) hC.x hC.b (hC.w _ hw) (g := F0 (xm X) pc ls (.int (Int32.ofInt (z : Int)) :: st.map (cv ad))) rfl d rfl hnn.1 hnn.2 (Nat.le_trans (Nat.mul_le_mul_left z (show componentBytes .boolean ≤ 8 by decide)) (by omega)) hcs hsl rfl fun H1 cA e1 z1 o1 hAr hNm => ?_
  have hcA : cA = (xcy X).2.2 := by
    have h := (hC.K.2 2 _ rfl).2
    have h' : (xs X).vm.findClass ("[" ++ (.boolean : FieldType).toString) = some (xcy X).2.2 := h
    exact Option.some.inj (hNm.symm.trans h')
  have hk : ∀ (k : Nat) (x : Nat × va_E), (wl (xcy X) ad n M P)[k]? = some x → H1[x.1]? = H[x.1]? := fun k x hx => o1 x.1 ((h1 k x hx).lt)
  have hP1 : va_P (xD X) vwCl (wl (xcy X) ad n M P ++ [(H.size, .inl ((xcy X).2.2, z, .inl (fun _ => (0 : Int32))))]) H1 := (va_P.kept h1 hk).app (fun k x hx => by
    have hz : k < 1 := (List.getElem?_eq_some_iff.mp hx).1
    rw [show k = 0 by omega] at hx
    cases hx
    rw [← hcA]
    exact e1)
  exact G_push hC hB hcs hsl hrl hrs h1 h2 h3 hP1 z1 o1 (by
    rw [ceS_Z hs]
    have : ∀ j, zM M n n j = 0 := fun j => by unfold zM; rw [if_pos rfl]
    simp only [this]
    rfl) kk
theorem G_putFR {k ci z j idx q : Nat} {ty : FieldType} (hC : OK X Y cc own nL rt fr lo nm) (hI : (xmeth X).name = "<init>") (hf : FL own idx ci j 2 true ty) (hown : ∀ C T N, vwCl[ci]? = some (C, T, N) → C = own) (hs : shp k = (ci, z)) (hk : k < yn Y) (hn : ∀ a : Nat, narrow ty (.ref a) = .ref a) (hfit : ∀ a : Nat, fits ty (.ref a) = true) (d : decode cc pc = .ok (.putfield idx, 3)) (kk : G X Y (pc + 3) L st M (upP P k j (some q))) : G X Y pc L (vR q :: vR k :: st) M P :=
  G_putF0 hC hI hf hown hs hk (hn _) (hfit _) (by simp [fvl, cv, upP, va_rf]) (fun _ _ => rfl) (fun i hi => by simp [upP, hi]) (fun _ _ _ => rfl) (fun a ha i => upP_ne ha i) d kk
theorem G_putFI {k ci z j idx : Nat} {v : Int} (hC : OK X Y cc own nL rt fr lo nm) (hI : (xmeth X).name = "<init>") (hf : FL own idx ci j 0 true .int) (hown : ∀ C T N, vwCl[ci]? = some (C, T, N) → C = own) (hs : shp k = (ci, z)) (hk : k < yn Y) (d : decode cc pc = .ok (.putfield idx, 3)) (kk : G X Y (pc + 3) L st (upM M k j v) P) : G X Y pc L (vI v :: vR k :: st) M P :=
  G_putF0 hC hI hf hown hs hk rfl rfl (by simp [fvl, cv, upM]) (fun i hi => by simp [upM, hi]) (fun _ _ => rfl) (fun a ha i => upM_ne ha i) (fun _ _ _ => rfl) d kk
def OI (own : String) (idx : Nat) : Prop := Cond.methodLink own idx Lib.objectInit ∈ lwG ∧ Cond.instanceMethod Lib.objectInit ∈ lwG ∧ Cond.code Lib.objectInit ⟨#[0xb1]⟩ 1 none ∈ lwG
theorem G_obj {k idx : Nat} (hC : OK X Y cc own nL rt fr lo nm) (ho : OI own idx) (hln : L.length = nL) (hR : 1 ≤ fr ∧ 20 ≤ lo) (hst : c2s st ≤ 8) (d : decode cc pc = .ok (.invokespecial idx, 3)) (kk : G X Y (pc + 3) L st M P) : G X Y pc L (vR k :: st) M P := by
  obtain ⟨o1, o2, o3⟩ := ho
  intro H locs ls h1 h2 h3
  have h := kk H locs ls h1 h2 h3
  exact W.objInit hC.x hC.b hC.o (hC.w _ o1) (hC.w _ o2) (hC.w _ o3) (g := F0 (xm X) pc ls (.ref (ya Y k) :: st.map (cv (ya Y)))) rfl (h3.1.trans (hln.trans hC.1.2.2.2.1.symm)) rfl d (by rw [hC.2.2.2.1.1]; exact hR.1) (by
    show 2 * 0 + ((st.map (cv (ya Y))).map fun v => v.category).sum + 12 ≤ _
    rw [c2s_ok, hC.2.2.2.1.2.1]; omega) h
theorem G_callIA {stk : List AV} {y : MethodName} {cc' : ByteArray} {nL' : Nat} {fr' lo' mc ms n' b na idx : Nat} {as : List AV} (hC : OK X Y cc own nL rt fr lo nm) (hct : CtA (xl X) y cc' nL' none fr' lo' mc ms (yn Y) n' (vR b :: as) M P Q) (hm : MI own idx y cc' nL' na) (ha : as.length = na) (hR : fr' + 1 ≤ fr ∧ 8 + (nL' + 11) + lo' ≤ lo) (hst : c2s st ≤ 8) (hc : yc Y + mc ≤ (xR X).cells) (hsl : ys Y + ms ≤ (xR X).slots) (hn : yn Y ≤ n') (hln : L.length = nL) (hrl : L.all (rO2 (yn Y) n') = true) (hrs : st.all (rO2 (yn Y) n') = true) (hQ : ∀ r M' P', Q r M' P' → r = none ∧ PB P' n') (d : decode cc pc = .ok (.invokespecial idx, 3)) (hk : stk = as.reverse ++ vR b :: st)
    (kk : ∀ ad' M' P', Q none M' P' → (∀ k, k < yn Y ∨ n' ≤ k → ad' k = ya Y k) → OK X (ad', n', yc Y + mc, ys Y + ms) cc own nL rt fr lo n' → G X (ad', n', yc Y + mc, ys Y + ms) (pc + 3) L st M' P') : G X Y pc L stk M P := by
  subst hk
  intro H locs ls h1 h2 h3
  refine G_back hC (G_runI hC hct hm ha hR hst hc hsl (h3.1.trans hln) d h1) h2 hc hsl hn (fun ad' r M' P' H1 locs1 hq hx hx3 hOK q1 q2 => ?_)
  obtain ⟨rfl, hB⟩ := hQ r M' P' hq
  have a1 : ∀ k, k < n' → (fun k => if k < n' then ad' k else ya Y k) k = ad' k := fun k hk => if_pos hk
  have a2 : ∀ k, k < yn Y ∨ n' ≤ k → (fun k => if k < n' then ad' k else ya Y k) k = ya Y k := fun k hk => by
    dsimp only
    split
    · exact hx k (by omega)
    · rfl
  have hOK2 : OK X ((fun k => if k < n' then ad' k else ya Y k), n', yc Y + mc, ys Y + ms) cc own nL rt fr lo n' := by
    obtain ⟨c1, c2, ⟨d1, d2, d3⟩, ⟨f1, f2, f3, f4, f5⟩, ⟨g1, g2, g3, g4⟩⟩ := hOK
    have d1' : injA ad' n' := d1
    have d2' : ∀ i, i < n' → xA X (ad' i) := d2
    have g1' : xn X ≤ n' := g1
    have g2' : ∀ k, k < xn X → ad' k = xad X k := g2
    have g3' : ∀ k, xn X ≤ k → k < n' → (xs X).heap.size ≤ ad' k := g3
    have g4' : n' = xn X → ad' = xad X := g4
    refine ⟨c1, c2, ⟨fun i j hi hj e => ?_, fun i hi => ?_, d3⟩, ⟨f1, f2, f3, f4, Nat.le_refl _⟩, ⟨g1', fun k hk => ?_, fun k h1 h2 => ?_, fun e => ?_⟩⟩
    · have hi' : i < n' := hi
      have hj' : j < n' := hj
      have e' : (if i < n' then ad' i else ya Y i) = if j < n' then ad' j else ya Y j := e
      rw [if_pos hi', if_pos hj'] at e'
      exact d1' i j hi' hj' e'
    · show xA X (if i < n' then ad' i else ya Y i)
      have hi' : i < n' := hi
      rw [if_pos hi']; exact d2' i hi'
    · show (if k < n' then ad' k else ya Y k) = xad X k
      rw [if_pos (by omega)]; exact g2' k hk
    · show (xs X).heap.size ≤ if k < n' then ad' k else ya Y k
      have h2' : k < n' := h2
      rw [if_pos h2']; exact g3' k h1 h2'
    · have e' : n' = xn X := e
      have hy : yn Y = xn X := by have := hC.2.2.2.2.1; omega
      have hya := hC.2.2.2.2.2.2.2 hy
      show (fun k => if k < n' then ad' k else ya Y k) = xad X
      funext k
      split
      · rw [g4' e']
      · rw [hya]
  have hw := kk _ M' P' hq a2 hOK2 H1 locs1 ls (by
    show va_P (xD X) vwCl (wl (xcy X) (fun k => if k < n' then ad' k else ya Y k) n' M' P') H1
    rw [wl_ad hB a1]; exact q1) q2 (LH_ext2 a2 hrl h3)
  have e2 : st.map (cv (fun k => if k < n' then ad' k else ya Y k)) = st.map (cv (ya Y)) := map_ext2 a2 hrs
  rw [show ya ((fun k => if k < n' then ad' k else ya Y k), n', yc Y + mc, ys Y + ms) = fun k => if k < n' then ad' k else ya Y k from rfl, e2] at hw
  exact hw
end MAKE
