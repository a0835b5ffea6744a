/-! contracts -/
def HdS (D : va_G) (cy : CYT) (ad : Nat → Nat) (n : Nat) (M : Mem) (P : PMem) (U : State) : Prop := va_P D vwCl (wl cy ad n M P) U.heap ∧ va_K D vwCl (tysC cy) U ∧ (∀ w ∈ lwN, va_Nw w U) ∧ injA ad n
def aA (ad : Nat → Nat) (n sz : Nat) : Nat → Prop := fun q => (∃ k, k < n ∧ q = ad k) ∨ sz ≤ q
def QcA (D : va_G) (cy : CYT) (ad : Nat → Nat) (n n' sz : Nat) (Q : Option AV → Mem → PMem → Prop) : Array Value → State → Outcome → State → Prop := fun _ s oc t => (∃ (ad' : Nat → Nat) (r : Option AV) (M' : Mem) (P' : PMem), oc = .returned (r.map (cv ad')) ∧ Q r M' P' ∧ HdS D cy ad' n' M' P' t ∧ (∀ k, k < n → ad' k = ad k) ∧ (∀ k, n ≤ k → k < n' → sz ≤ ad' k) ∧ (n' = n → ad' = ad)) ∧ va_F (aA ad n sz) s t
def PcA (D : va_G) (cy : CYT) (ad : Nat → Nat) (n sz : Nat) (as : List AV) (M : Mem) (P : PMem) : Array Value → State → Prop := va_Pc (as.map (cv ad)) (fun U => U.heap.size = sz ∧ HdS D cy ad n M P U)
/-- a contract that may make cells: from n cells to n' -/
def CtA (l : Launch) (y : MethodName) (cc : ByteArray) (nL : Nat) (rt : Option FieldType) (fr lo mc ms n n' : Nat) (as : List AV) (M : Mem) (P : PMem) (Q : Option AV → Mem → PMem → Prop) : Prop :=
  ∀ (D : va_G) (cy : CYT) (ad : Nat → Nat) (sz : Nat), Met l y (Cond.code y cc nL rt :: lwG) { frames := fr, cells := mc, slots := ms, locals := lo } (PcA D cy ad n sz as M P) (QcA D cy ad n n' sz Q) mc ms (aA ad n sz)
/-- a contract of a method that makes none -/
def Ct (l : Launch) (y : MethodName) (cc : ByteArray) (nL : Nat) (rt : Option FieldType) (fr lo nm : Nat) (as : List AV) (M : Mem) (P : PMem) (Q : Option AV → Mem → PMem → Prop) : Prop := ∀ n, nm ≤ n → CtA l y cc nL rt fr lo 0 0 n n as M P Q
def entL : List AV → List AV
  | [] => []
  | v :: l => if isC2 v = true then v :: vX 1 :: entL l else v :: entL l
theorem entL_args (ad : Nat → Nat) : ∀ (as : List AV) (i j : Nat) (v : AV), (entL as)[j]? = some v → isV v = true → (i + j, cv ad v) ∈ lv_args i (as.map (cv ad))
  | [], i, j, v, h, _ => by simp [entL] at h
  | w :: l, i, j, v, h, hv => by
    unfold entL at h
    by_cases hw : isC2 w = true
    · rw [if_pos hw] at h
      have hc : (cv ad w).category = 2 := by
        rcases w with z | z | z | z <;> first | rfl | simp [isC2] at hw
      show _ ∈ (i, cv ad w) :: lv_args (if (cv ad w).category = 2 then i + 2 else i + 1) (l.map (cv ad))
      rw [if_pos hc]
      match j, h with
      | 0, h =>
        have : w = v := by simpa using h
        subst this
        exact List.mem_cons_self
      | 1, h =>
        have : vX 1 = v := by simpa using h
        subst this
        simp [isV] at hv
      | j + 2, h =>
        have h2 := entL_args ad l (i + 2) j v (by simpa using h) hv
        rw [show i + (j + 2) = i + 2 + j by omega]
        exact List.mem_cons_of_mem _ h2
    · rw [if_neg hw] at h
      have hc : ¬ (cv ad w).category = 2 := by
        rcases w with z | z | z | z <;> first | (simp [isC2] at hw; done) | (simp [cv, Value.category]; done)
      show _ ∈ (i, cv ad w) :: lv_args (if (cv ad w).category = 2 then i + 2 else i + 1) (l.map (cv ad))
      rw [if_neg hc]
      match j, h with
      | 0, h =>
        have : w = v := by simpa using h
        subst this
        exact List.mem_cons_self
      | j + 1, h =>
        have h2 := entL_args ad l (i + 1) j v (by simpa using h) hv
        rw [show i + (j + 1) = i + 1 + j by omega]
        exact List.mem_cons_of_mem _ h2
theorem entL_len (ad : Nat → Nat) : ∀ (as : List AV), (lg_sl (as.map (cv ad))).length = (entL as).length
  | [] => rfl
  | w :: l => by
    have ih := entL_len ad l
    unfold lg_sl at ih ⊢
    rw [List.map_cons, List.flatMap_cons, List.length_append, ih, show entL (w :: l) = if isC2 w = true then w :: vX 1 :: entL l else w :: entL l from rfl]
    by_cases hw : isC2 w = true
    · have hc : (cv ad w).category = 2 := by
        rcases w with z | z | z | z <;> first | rfl | simp [isC2] at hw
      rw [if_pos hw, if_pos hc]; simp; omega
    · have hc : ¬ (cv ad w).category = 2 := by
        rcases w with z | z | z | z <;> first | (simp [isC2] at hw; done) | (simp [cv, Value.category]; done)
      rw [if_neg hw, if_neg hc]; simp; omega
theorem LH_entry {ad : Nat → Nat} {as L : List AV} {n : Nat} (hL : L = entL as ++ List.replicate (n - (entL as).length) (vX 1)) (h : (entL as).length ≤ n) : LH ad ((lg_sl (as.map (cv ad)) ++ List.replicate (n - (lg_sl (as.map (cv ad))).length) Slot.unset).toArray) L := by
  have hl := lv_entry (as.map (cv ad)) (n := n) (by rw [entL_len]; exact h)
  subst hL
  refine ⟨by rw [hl.1]; simp; omega, hl.2.1, fun i v hi hv => ?_⟩
  by_cases hlt : i < (entL as).length
  · rw [List.getElem?_append_left hlt] at hi
    have := entL_args ad as 0 i v hi hv
    rw [Nat.zero_add] at this
    exact hl.2.2 _ this
  · rw [List.getElem?_append_right (by omega)] at hi
    have : v = vX 1 := by
      have := List.mem_of_getElem? hi
      exact (List.mem_replicate.mp this).2
    subst this
    simp [isV] at hv
theorem aA_A {ad : Nat → Nat} {n sz : Nat} : (∀ i, i < n → aA ad n sz (ad i)) ∧ ∀ q, sz ≤ q → aA ad n sz q := ⟨fun i h => Or.inl ⟨i, h, rfl⟩, fun _ h => Or.inr h⟩
theorem HdS.warm {D : va_G} {cy : CYT} {ad : Nat → Nat} {n : Nat} {M : Mem} {P : PMem} {s U : State} (hH : va_P D vwCl (wl cy ad n M P) U.heap) (hK : va_K D vwCl (tysC cy) s) (hN : ∀ w ∈ lwN, va_Nw w s) (hi : injA ad n) (hW : s.WarmedH U.vm) : HdS D cy ad n M P U := ⟨hH, va_K.moved hW.alike hK, lwN_warm hW hN, hi⟩
theorem CtA_of {l : Launch} {y : MethodName} {cc : ByteArray} {nL : Nat} {rt : Option FieldType} {fr lo mc ms n n' nm : Nat} {as L : List AV} {M : Mem} {P : PMem} {Q : Option AV → Mem → PMem → Prop} {own : String} (hy : plainName y.cls = true) (ho : y.cls = own) (hL : L = entL as ++ List.replicate (nL - (entL as).length) (vX 1)) (hlen : (entL as).length ≤ nL) (hnm : nm ≤ n)
    (body : ∀ (X : CX) (ad : Nat → Nat), xl X = l → (xmeth X).name = y.name → (xR X).cells = mc → (xR X).slots = ms → OK X (ad, n, 0, 0) cc own nL rt fr lo nm → RQ X n' mc ms Q → G X (ad, n, 0, 0) 0 L [] M P) : CtA l y cc nL rt fr lo mc ms n n' as M P Q := by
  intro D cy ad sz
  refine Met.ofW (cc := cc) (maxL := nL) (ret := rt) hy rfl ?_
  intro p e s m args below meth c s₁ B hml hv
  obtain ⟨rfl, hsz, hP, hK, hN, hi⟩ := hv
  subst hsz
  have hts := atoms_spec (ws := Cond.code y cc nL rt :: lwG) B.pre
  have hown : s.vm.findClass own = some m.cls := by rw [← ho]; exact findClass_of_methodNamed B.named
  have hname : meth.name = y.name := (name_of_methodNamed B.named B.method).1
  let X : CX := ((p, l, e, (headSpec (Cond.code y cc nL rt :: lwG) { frames := fr, cells := mc, slots := ms, locals := lo }).room, s, m, (as.map (cv ad)).toArray, below), (meth, c, D, cy), (aA ad n s.heap.size, MQ below (QcA D cy ad n n' s.heap.size Q) (as.map (cv ad)).toArray s mc ms (aA ad n s.heap.size), ad, n))
  have hb := body X ad rfl hname rfl rfl ⟨⟨B.exec, B.bytes, hown, hml, B.returns, B.notSynchronized⟩, ⟨fun w hw => hts w (List.mem_cons_of_mem _ hw), hN, hK⟩, ⟨hi, aA_A.1, aA_A.2⟩, ⟨rfl, rfl, Nat.zero_le _, Nat.zero_le _, hnm⟩, ⟨Nat.le_refl _, fun _ _ => rfl, fun k h1 h2 => absurd h2 (by show ¬ k < n; exact Nat.not_lt.mpr h1), fun _ => rfl⟩⟩
    ⟨QcA D cy ad n n' s.heap.size Q, rfl, fun ad' r M' P' H locs hq hi' h1 h2 h4 hP' hS t ht hW => ⟨⟨ad', r, M', P', rfl, hq, ⟨by rw [ht]; exact hP', va_K.moved hW.alike hK, lwN_warm hW hN, hi'⟩, h1, h2, h4⟩, hS.F ht⟩⟩
  have hw := hb s.heap [] ((lg_sl (as.map (cv ad)) ++ List.replicate (nL - (lg_sl (as.map (cv ad))).length) Slot.unset).toArray) hP va_S.rf (LH_entry hL hlen)
  rw [lg_entry_eq]
  exact hw
theorem Ct_of {l : Launch} {y : MethodName} {cc : ByteArray} {nL : Nat} {rt : Option FieldType} {fr lo nm : Nat} {as L : List AV} {M : Mem} {P : PMem} {Q : Option AV → Mem → PMem → Prop} {own : String} (hy : plainName y.cls = true) (ho : y.cls = own) (hL : L = entL as ++ List.replicate (nL - (entL as).length) (vX 1)) (hlen : (entL as).length ≤ nL)
    (body : ∀ (X : CX) (Y : CY), xl X = l → OK X Y cc own nL rt fr lo nm → RQ X (yn Y) (yc Y) (ys Y) Q → G X Y 0 L [] M P) : Ct l y cc nL rt fr lo nm as M P Q := by
  intro n hn
  exact CtA_of hy ho hL hlen hn (fun X ad hl _ _ _ hC hQ => body X (ad, n, 0, 0) hl hC hQ)
theorem CtA.mono {l : Launch} {y : MethodName} {cc : ByteArray} {nL : Nat} {rt : Option FieldType} {fr lo mc ms n n' : Nat} {as : List AV} {M : Mem} {P : PMem} {Q Q' : Option AV → Mem → PMem → Prop} (h : CtA l y cc nL rt fr lo mc ms n n' as M P Q) (hq : ∀ r M' P', Q r M' P' → Q' r M' P') : CtA l y cc nL rt fr lo mc ms n n' as M P Q' := by
  intro D cy ad sz p e ha hc hk s m args below hf happ hP hK
  obtain ⟨k, o, h1, h2, h3, ⟨⟨ad', r, M', P', a1, a2, a3⟩, b⟩, c⟩ := h D cy ad sz p e ha hc hk s m args below hf happ hP hK
  exact ⟨k, o, h1, h2, h3, ⟨⟨ad', r, M', P', a1, hq _ _ _ a2, a3⟩, b⟩, c⟩
theorem Ct.mono {l : Launch} {y : MethodName} {cc : ByteArray} {nL : Nat} {rt : Option FieldType} {fr lo nm : Nat} {as : List AV} {M : Mem} {P : PMem} {Q Q' : Option AV → Mem → PMem → Prop} (h : Ct l y cc nL rt fr lo nm as M P Q) (hq : ∀ r M' P', Q r M' P' → Q' r M' P') : Ct l y cc nL rt fr lo nm as M P Q' := fun n hn => (h n hn).mono hq
/-! links of methods -/
def ML (own : String) (idx : Nat) (y : MethodName) (cc : ByteArray) (nL : Nat) (rt : Option FieldType) (na : Nat) : Prop := (y.cls ≠ "java/lang/invoke/MethodHandle" ∧ y.cls ≠ "java/lang/invoke/VarHandle" ∧ (parseMethodDescriptor y.desc).map (fun d => d.parameters.length) = some na) ∧ Cond.code y cc nL rt ∈ lwG ∧ Cond.initialized y.cls ∈ lwG ∧ (Cond.methodLink own idx y ∈ lwG ∨ ∃ host, Cond.methodLinkNest own idx y host ∈ lwN)
def MV (own : String) (idx : Nat) (y : MethodName) (cc : ByteArray) (nL : Nat) (rt : Option FieldType) (na ci : Nat) : Prop := ML own idx y cc nL rt na ∧ Cond.instanceMethod y ∈ lwG ∧ Cond.selects y.cls y y ∈ lwG ∧ ∃ T N, vwCl[ci]? = some (y.cls, T, N) ∧ ci < 11
def MS (own : String) (idx : Nat) (y : MethodName) (cc : ByteArray) (nL : Nat) (rt : Option FieldType) (na : Nat) : Prop := ML own idx y cc nL rt na ∧ Cond.static y ∈ lwG
def MI (own : String) (idx : Nat) (y : MethodName) (cc : ByteArray) (nL : Nat) (na : Nat) : Prop := ML own idx y cc nL none na ∧ y.name = "<init>" ∧ Cond.instanceMethod y ∈ lwG
theorem good_cons {y : MethodName} {cc : ByteArray} {nL : Nat} {rt : Option FieldType} (h : Cond.code y cc nL rt ∈ lwG) : GoodIn lwG (Cond.code y cc nL rt :: lwG) := by
  intro w hw
  have hm : w ∈ lwG := by
    rcases List.mem_cons.mp hw with rfl | h2
    · exact h
    · exact h2
  exact ⟨hm, good_of_word (lwG_good hm)⟩
def c2s (l : List AV) : Nat := (l.map (fun v => if isC2 v = true then 2 else 1)).sum
theorem c2s_ok (ad : Nat → Nat) : ∀ (l : List AV), ((l.map (cv ad)).map fun v => v.category).sum = c2s l
  | [] => rfl
  | v :: l => by
    have ih := c2s_ok ad l
    unfold c2s at ih ⊢
    simp only [List.map_cons, List.sum_cons, ih]
    congr 1
    rcases v with z | z | z | z <;> rfl
/-- the references among these values are of cells that are there -/
def rOK (n : Nat) : AV → Bool
  | .inr (.inr (.inl k)) => decide (k < n)
  | _ => true
theorem cv_ext {ad ad' : Nat → Nat} {n : Nat} (h : ∀ k, k < n → ad' k = ad k) {v : AV} (hv : rOK n v = true) : cv ad' v = cv ad v := by
  rcases v with z | z | k | z
  · rfl
  · rfl
  · have : k < n := by simpa [rOK] using hv
    simp [cv, h k this]
  · rfl
section LAY6
variable {X : CX} {Y : CY} {cc : ByteArray} {own : String} {nL : Nat} {rt : Option FieldType} {fr lo nm : Nat} {pc : Nat} {L st : List AV} {M : Mem} {P : PMem} {Q : Option AV → Mem → PMem → Prop}
theorem aA_xA (hC : OK X Y cc own nL rt fr lo nm) {H : Heap} (hs : (xs X).heap.size ≤ H.size) (q : Nat) (h : aA (ya Y) (yn Y) H.size q) : xA X q := by
  rcases h with ⟨k, hk, rfl⟩ | h
  · exact hC.2.2.1.2.1 k hk
  · exact hC.2.2.1.2.2 q (Nat.le_trans hs h)
/-- behind a call -/
theorem G_back {H : Heap} {locs : List Loc} {ls : Array Slot} {mc ms n' : Nat} {st0 rest : List Value} {a : Array Value} (hC : OK X Y cc own nL rt fr lo nm)
    (hr : va_Run (xp X) (xl X) (xe X) (xR X) (xs X) (xm X) (xargs X) (xbelow X) (xmeth X) (xc X) H locs (yc Y) (ys Y) mc ms (F0 (xm X) pc ls st0) rest (QcA (xD X) (xcy X) (ya Y) (yn Y) n' H.size Q a) (aA (ya Y) (yn Y) H.size))
    (hS : va_S (xA X) (xs X).heap H locs) (hc : yc Y + mc ≤ (xR X).cells) (hs : ys Y + ms ≤ (xR X).slots) (hn : yn Y ≤ n')
    (kk : ∀ (ad' : Nat → Nat) (r : Option AV) (M' : Mem) (P' : PMem) (H1 : Heap) (locs1 : List Loc), Q r M' P' → (∀ k, k < yn Y → ad' k = ya Y k) → (n' = yn Y → ad' = ya Y) → OK X (ad', n', yc Y + mc, ys Y + ms) cc own nL rt fr lo nm → va_P (xD X) vwCl (wl (xcy X) ad' n' M' P') H1 → va_S (xA X) (xs X).heap H1 locs1 → WW X (ad', n', yc Y + mc, ys Y + ms) H1 locs1 (F0 (xm X) (pc + 3) ls ((r.map (cv ad')).toList ++ rest))) : WW X Y H locs (F0 (xm X) pc ls st0) := by
  intro T hT X0
  obtain ⟨v, st₀, t, T', L', h0, X', hL, e1, e2, ⟨⟨ad', r, M', P', hv, hq, ⟨hP', hK', hN', hi'⟩, hx1, hx2, hx3⟩, hz, hk⟩, hst⟩ := hr T hT X0
  cases hv
  rw [h0] at hz hk
  have hA := aA_xA hC hS.1
  have hS' : va_S (xA X) (xs X).heap T'.heap (locs ++ L') := ⟨Nat.le_trans hS.1 (by rw [e1]; exact hz), fun q h1 h2 => by rw [e1, hk q (Nat.lt_of_lt_of_le h1 hS.1) (fun z => h2 (hA q z))]; exact hS.2.1 q h1 h2, fun q hq => by
      rcases List.mem_append.mp hq with h | h
      · exact hS.2.2 q h
      · exact hA _ (hL q h)⟩
  have hOK : OK X (ad', n', yc Y + mc, ys Y + ms) cc own nL rt fr lo nm := by
    obtain ⟨c1, c2, ⟨d1, d2, d3⟩, ⟨f1, f2, f3, f4, f5⟩, ⟨g1, g2, g3, g4⟩⟩ := hC
    refine ⟨c1, c2, ⟨hi', fun i hi => ?_, d3⟩, ⟨f1, f2, hc, hs, Nat.le_trans f5 hn⟩, ⟨Nat.le_trans g1 hn, fun k hk => ?_, fun k h1 h2 => ?_, fun e => ?_⟩⟩
    · show xA X (ad' i)
      by_cases h : i < yn Y
      · rw [hx1 i h]; exact d2 i h
      · exact d3 _ (Nat.le_trans hS.1 (hx2 i (by omega) hi))
    · show ad' k = xad X k
      rw [hx1 k (by omega)]; exact g2 k hk
    · show (xs X).heap.size ≤ ad' k
      by_cases h : k < yn Y
      · rw [hx1 k h]; exact g3 k h1 h
      · exact Nat.le_trans hS.1 (hx2 k (by omega) h2)
    · show ad' = xad X
      have e' : n' = xn X := e
      rw [hx3 (by omega)]; exact g4 (by omega)
  obtain ⟨t2, a1, b1⟩ := kk ad' r M' P' T'.heap (locs ++ L') hq hx1 hx3 hOK (by rw [e1]; exact hP') hS' T' rfl X'
  exact ⟨t2, hst t2 a1, b1⟩
theorem blindA {D : va_G} {cy : CYT} {ad : Nat → Nat} {n sz : Nat} {as : List AV} : FrameBlind (PcA D cy ad n sz as M P) := by
  intro a U g mk q
  obtain ⟨q0, q1, q2, q3, q4, q5⟩ := q
  exact ⟨q0, q1, q2, va_K.moved (u := U) (U := U.calling g mk a) (Vm.Alike.refl U.vm) q3, lwN_same (s := U) (U := U.calling g mk a) rfl q4, q5⟩
theorem G_runV {H : Heap} {locs : List Loc} {ls : Array Slot} {y : MethodName} {cc' : ByteArray} {nL' : Nat} {rt' : Option FieldType} {fr' lo' mc ms n' b ci z na idx : Nat} {as : List AV} (hC : OK X Y cc own nL rt fr lo nm) (hct : CtA (xl X) y cc' nL' rt' fr' lo' mc ms (yn Y) n' (vR b :: as) M P Q) (hm : MV own idx y cc' nL' rt' na ci) (hs : shp b = (ci, z)) (hb : b < yn Y) (ha : as.length = na) (hR : fr' + 1 ≤ fr ∧ 8 + (nL' + 11) + lo' ≤ lo) (hst : c2s st ≤ 8) (hc : yc Y + mc ≤ (xR X).cells) (hsl : ys Y + ms ≤ (xR X).slots) (hls : ls.size = nL) (d : decode cc pc = .ok (.invokevirtual idx, 3)) (h1 : va_P (xD X) vwCl (wl (xcy X) (ya Y) (yn Y) M P) H) :
    va_Run (xp X) (xl X) (xe X) (xR X) (xs X) (xm X) (xargs X) (xbelow X) (xmeth X) (xc X) H locs (yc Y) (ys Y) mc ms (F0 (xm X) pc ls ((as.reverse ++ vR b :: st).map (cv (ya Y)))) (st.map (cv (ya Y))) (QcA (xD X) (xcy X) (ya Y) (yn Y) n' H.size Q ((vR b :: as).map (cv (ya Y))).toArray) (aA (ya Y) (yn Y) H.size) := by
  obtain ⟨⟨⟨hd1, hd2, hd3⟩, hcode, hini, hlink⟩, hinst, hsel, T, N, hcl, hci⟩ := hm
  have hrecv := va_recv hC.K h1 hcl (a := ya Y b) (q0 := b) (ci := ci) (by rw [wl_get hb, ceS_obj hs hci])
  have hR' : fr' + 1 ≤ (xR X).frames ∧ 8 + (nL' + 11) + lo' ≤ (xR X).locals := by
    rw [hC.2.2.2.1.1, hC.2.2.2.1.2.1]; exact hR
  have hp : PreV (xs X) H y.cls (ya Y b) (PcA (xD X) (xcy X) (ya Y) (yn Y) H.size (vR b :: as) M P) (as.map (cv (ya Y))) :=
    ⟨blindA, hrecv, fun U hU hW => ⟨rfl, by rw [hU], HdS.warm (by rw [hU]; exact h1) hC.K hC.2.1.2.1 hC.2.2.1.1 hW⟩⟩
  have hstk : (F0 (xm X) pc ls ((as.reverse ++ vR b :: st).map (cv (ya Y)))).stack = (as.map (cv (ya Y))).reverse ++ .ref (ya Y b) :: st.map (cv (ya Y)) := by
    show (as.reverse ++ vR b :: st).map (cv (ya Y)) = _
    rw [List.map_append, List.map_reverse]; rfl
  have hW8 : 2 * (F0 (xm X) pc ls ((as.reverse ++ vR b :: st).map (cv (ya Y)))).monitorRoom + ((st.map (cv (ya Y))).map fun v => v.category).sum ≤ 8 := lv_room (by rw [c2s_ok]; exact hst)
  rcases hlink with hl | ⟨host, hl⟩
  · exact va_runV (C := y.cls) ⟨hC.x, hC.b, hC.1.2.2.2.1, hC.o, hC.w⟩ (hct (xD X) (xcy X) (ya Y) H.size) ⟨callB_of na hC.w (good_cons hcode) rfl rfl rfl (hC.w _ hini) (hC.w _ hl) ⟨hd1, hd2, hd3⟩ hR', hC.w _ hinst, hC.w _ hsel⟩ hp rfl (by rw [List.length_map]; exact ha) hls hstk hW8 d ⟨hc, hsl⟩
  · exact va_runVN (C := y.cls) ⟨hC.x, hC.b, hC.1.2.2.2.1, hC.o, hC.w⟩ (hct (xD X) (xcy X) (ya Y) H.size) ⟨va_cnB na hC.w (good_cons hcode) rfl rfl rfl (hC.2.1.2.1 _ hl) (hC.w _ hini) ⟨hd1, hd2, hd3⟩ hR', hC.w _ hinst, hC.w _ hsel⟩ hp rfl (by rw [List.length_map]; exact ha) hls hstk hW8 d ⟨hc, hsl⟩
theorem G_runS {H : Heap} {locs : List Loc} {ls : Array Slot} {y : MethodName} {cc' : ByteArray} {nL' : Nat} {rt' : Option FieldType} {fr' lo' mc ms n' na idx : Nat} {as : List AV} (hC : OK X Y cc own nL rt fr lo nm) (hct : CtA (xl X) y cc' nL' rt' fr' lo' mc ms (yn Y) n' as M P Q) (hm : MS own idx y cc' nL' rt' na) (ha : as.length = na) (hR : fr' + 1 ≤ fr ∧ 8 + (nL' + 11) + lo' ≤ lo) (hst : c2s st ≤ 8) (hc : yc Y + mc ≤ (xR X).cells) (hsl : ys Y + ms ≤ (xR X).slots) (hls : ls.size = nL) (d : decode cc pc = .ok (.invokestatic idx, 3)) (h1 : va_P (xD X) vwCl (wl (xcy X) (ya Y) (yn Y) M P) H) :
    va_Run (xp X) (xl X) (xe X) (xR X) (xs X) (xm X) (xargs X) (xbelow X) (xmeth X) (xc X) H locs (yc Y) (ys Y) mc ms (F0 (xm X) pc ls ((as.reverse ++ st).map (cv (ya Y)))) (st.map (cv (ya Y))) (QcA (xD X) (xcy X) (ya Y) (yn Y) n' H.size Q (as.map (cv (ya Y))).toArray) (aA (ya Y) (yn Y) H.size) := by
  obtain ⟨⟨⟨hd1, hd2, hd3⟩, hcode, hini, hlink⟩, hstat⟩ := hm
  have hR' : fr' + 1 ≤ (xR X).frames ∧ 8 + (nL' + 11) + lo' ≤ (xR X).locals := by
    rw [hC.2.2.2.1.1, hC.2.2.2.1.2.1]; exact hR
  have hp : PreS (xs X) H (PcA (xD X) (xcy X) (ya Y) (yn Y) H.size as M P) (as.map (cv (ya Y))) :=
    ⟨blindA, fun U hU hW => ⟨rfl, by rw [hU], HdS.warm (by rw [hU]; exact h1) hC.K hC.2.1.2.1 hC.2.2.1.1 hW⟩⟩
  have hstk : (F0 (xm X) pc ls ((as.reverse ++ st).map (cv (ya Y)))).stack = (as.map (cv (ya Y))).reverse ++ st.map (cv (ya Y)) := by
    show (as.reverse ++ st).map (cv (ya Y)) = _
    rw [List.map_append, List.map_reverse]
  have hW8 : 2 * (F0 (xm X) pc ls ((as.reverse ++ st).map (cv (ya Y)))).monitorRoom + ((st.map (cv (ya Y))).map fun v => v.category).sum ≤ 8 := lv_room (by rw [c2s_ok]; exact hst)
  rcases hlink with hl | ⟨host, hl⟩
  · exact va_runS ⟨hC.x, hC.b, hC.1.2.2.2.1, hC.o, hC.w⟩ (hct (xD X) (xcy X) (ya Y) H.size) ⟨callB_of na hC.w (good_cons hcode) rfl rfl rfl (hC.w _ hini) (hC.w _ hl) ⟨hd1, hd2, hd3⟩ hR', hC.w _ hstat⟩ hp rfl (by rw [List.length_map]; exact ha) hls hstk hW8 d ⟨hc, hsl⟩
  · exact va_runSN ⟨hC.x, hC.b, hC.1.2.2.2.1, hC.o, hC.w⟩ (hct (xD X) (xcy X) (ya Y) H.size) ⟨va_cnB na hC.w (good_cons hcode) rfl rfl rfl (hC.2.1.2.1 _ hl) (hC.w _ hini) ⟨hd1, hd2, hd3⟩ hR', hC.w _ hstat, trivial⟩ hp rfl (by rw [List.length_map]; exact ha) hls hstk hW8 d ⟨hc, hsl⟩
theorem G_runI {H : Heap} {locs : List Loc} {ls : Array Slot} {y : MethodName} {cc' : ByteArray} {nL' : Nat} {fr' lo' mc ms n' b na idx : Nat} {as : List AV} (hC : OK X Y cc own nL rt fr lo nm) (hct : CtA (xl X) y cc' nL' none fr' lo' mc ms (yn Y) n' (vR b :: as) M P Q) (hm : MI own idx y cc' nL' na) (ha : as.length = na) (hR : fr' + 1 ≤ fr ∧ 8 + (nL' + 11) + lo' ≤ lo) (hst : c2s st ≤ 8) (hc : yc Y + mc ≤ (xR X).cells) (hsl : ys Y + ms ≤ (xR X).slots) (hls : ls.size = nL) (d : decode cc pc = .ok (.invokespecial idx, 3)) (h1 : va_P (xD X) vwCl (wl (xcy X) (ya Y) (yn Y) M P) H) :
    va_Run (xp X) (xl X) (xe X) (xR X) (xs X) (xm X) (xargs X) (xbelow X) (xmeth X) (xc X) H locs (yc Y) (ys Y) mc ms (F0 (xm X) pc ls ((as.reverse ++ vR b :: st).map (cv (ya Y)))) (st.map (cv (ya Y))) (QcA (xD X) (xcy X) (ya Y) (yn Y) n' H.size Q ((vR b :: as).map (cv (ya Y))).toArray) (aA (ya Y) (yn Y) H.size) := by
  obtain ⟨⟨⟨hd1, hd2, hd3⟩, hcode, hini, hlink⟩, hname, hinst⟩ := hm
  have hR' : fr' + 1 ≤ (xR X).frames ∧ 8 + (nL' + 11) + lo' ≤ (xR X).locals := by
    rw [hC.2.2.2.1.1, hC.2.2.2.1.2.1]; exact hR
  have hp : PreS (xs X) H (PcA (xD X) (xcy X) (ya Y) (yn Y) H.size (vR b :: as) M P) (.ref (ya Y b) :: as.map (cv (ya Y))) :=
    ⟨blindA, fun U hU hW => ⟨rfl, by rw [hU], HdS.warm (by rw [hU]; exact h1) hC.K hC.2.1.2.1 hC.2.2.1.1 hW⟩⟩
  have hstk : (F0 (xm X) pc ls ((as.reverse ++ vR b :: st).map (cv (ya Y)))).stack = (as.map (cv (ya Y))).reverse ++ .ref (ya Y b) :: st.map (cv (ya Y)) := by
    show (as.reverse ++ vR b :: st).map (cv (ya Y)) = _
    rw [List.map_append, List.map_reverse]; rfl
  have hW8 : 2 * (F0 (xm X) pc ls ((as.reverse ++ vR b :: st).map (cv (ya Y)))).monitorRoom + ((st.map (cv (ya Y))).map fun v => v.category).sum ≤ 8 := lv_room (by rw [c2s_ok]; exact hst)
  rcases hlink with hl | ⟨host, hl⟩
  · exact va_runI ⟨hC.x, hC.b, hC.1.2.2.2.1, hC.o, hC.w⟩ (hct (xD X) (xcy X) (ya Y) H.size) ⟨callB_of na hC.w (good_cons hcode) rfl rfl rfl (hC.w _ hini) (hC.w _ hl) ⟨hd1, hd2, hd3⟩ hR', hname, hC.w _ hinst⟩ hp rfl (by rw [List.length_map]; exact ha) hls hstk hW8 d ⟨hc, hsl⟩
  · exact va_runIN ⟨hC.x, hC.b, hC.1.2.2.2.1, hC.o, hC.w⟩ (hct (xD X) (xcy X) (ya Y) H.size) ⟨va_cnB na hC.w (good_cons hcode) rfl rfl rfl (hC.2.1.2.1 _ hl) (hC.w _ hini) ⟨hd1, hd2, hd3⟩ hR', hname, hC.w _ hinst⟩ hp rfl (by rw [List.length_map]; exact ha) hls hstk hW8 d ⟨hc, hsl⟩
theorem LH.ext {ad ad' : Nat → Nat} {n : Nat} {ls : Array Slot} (h : ∀ k, k < n → ad' k = ad k) (hr : L.all (rOK n) = true) (hl : LH ad ls L) : LH ad' ls L := by
  refine ⟨hl.1, hl.2.1, fun i v hi hv => ?_⟩
  rw [cv_ext h (List.all_eq_true.mp hr v (List.mem_of_getElem? hi))]
  exact hl.2.2 i v hi hv
theorem map_ext {ad ad' : Nat → Nat} {n : Nat} (h : ∀ k, k < n → ad' k = ad k) : ∀ {l : List AV}, l.all (rOK n) = true → l.map (cv ad') = l.map (cv ad)
  | [], _ => rfl
  | v :: l, hr => by
    simp only [List.all_cons, Bool.and_eq_true] at hr
    rw [List.map_cons, List.map_cons, cv_ext h hr.1, map_ext h hr.2]
theorem map_ret {ad : Nat → Nat} (r : Option AV) : (r.map (cv ad)).toList ++ st.map (cv ad) = (r.toList ++ st).map (cv ad) := by cases r <;> rfl
theorem G_callV {stk : List AV} {y : MethodName} {cc' : ByteArray} {nL' : Nat} {rt' : Option FieldType} {fr' lo' nm' b ci z na idx : Nat} {as : List AV} (hC : OK X Y cc own nL rt fr lo nm) (hct : Ct (xl X) y cc' nL' rt' fr' lo' nm' (vR b :: as) M P Q) (hm : MV own idx y cc' nL' rt' na ci) (hs : shp b = (ci, z)) (hb : b < nm) (hnm : nm' ≤ nm) (ha : as.length = na) (hR : fr' + 1 ≤ fr ∧ 8 + (nL' + 11) + lo' ≤ lo) (hst : c2s st ≤ 8) (hln : L.length = nL) (d : decode cc pc = .ok (.invokevirtual idx, 3)) (hk : stk = as.reverse ++ vR b :: st) (kk : ∀ r M' P', Q r M' P' → G X Y (pc + 3) L (r.toList ++ st) M' P') : G X Y pc L stk M P := by
  subst hk
  intro H locs ls h1 h2 h3
  have hnY : nm ≤ yn Y := hC.2.2.2.1.2.2.2.2
  have hcc : yc Y + 0 ≤ (xR X).cells := hC.2.2.2.1.2.2.1
  have hss : ys Y + 0 ≤ (xR X).slots := hC.2.2.2.1.2.2.2.1
  refine G_back hC (G_runV hC (hct (yn Y) (Nat.le_trans hnm hnY)) hm hs (hC.n hb) ha hR hst hcc hss (h3.1.trans hln) d h1) h2 hcc hss (Nat.le_refl _) (fun ad' r M' P' H1 locs1 hq hx hx3 hOK q1 q2 => ?_)
  have e := hx3 rfl
  subst e
  rw [map_ret]
  exact kk r M' P' hq H1 locs1 ls q1 q2 h3
theorem G_callS {stk : List AV} {y : MethodName} {cc' : ByteArray} {nL' : Nat} {rt' : Option FieldType} {fr' lo' nm' na idx : Nat} {as : List AV} (hC : OK X Y cc own nL rt fr lo nm) (hct : Ct (xl X) y cc' nL' rt' fr' lo' nm' as M P Q) (hm : MS own idx y cc' nL' rt' na) (hnm : nm' ≤ nm) (ha : as.length = na) (hR : fr' + 1 ≤ fr ∧ 8 + (nL' + 11) + lo' ≤ lo) (hst : c2s st ≤ 8) (hln : L.length = nL) (d : decode cc pc = .ok (.invokestatic idx, 3)) (hk : stk = as.reverse ++ st) (kk : ∀ r M' P', Q r M' P' → G X Y (pc + 3) L (r.toList ++ st) M' P') : G X Y pc L stk M P := by
  subst hk
  intro H locs ls h1 h2 h3
  have hnY : nm ≤ yn Y := hC.2.2.2.1.2.2.2.2
  have hcc : yc Y + 0 ≤ (xR X).cells := hC.2.2.2.1.2.2.1
  have hss : ys Y + 0 ≤ (xR X).slots := hC.2.2.2.1.2.2.2.1
  refine G_back hC (G_runS hC (hct (yn Y) (Nat.le_trans hnm hnY)) hm ha hR hst hcc hss (h3.1.trans hln) d h1) h2 hcc hss (Nat.le_refl _) (fun ad' r M' P' H1 locs1 hq hx hx3 hOK q1 q2 => ?_)
  have e := hx3 rfl
  subst e
  rw [map_ret]
  exact kk r M' P' hq H1 locs1 ls q1 q2 h3
/-! contracts by what is answered -/
def CtI (l : Launch) (y : MethodName) (cc : ByteArray) (nL : Nat) (rt : Option FieldType) (fr lo nm : Nat) (as : List AV) (M : Mem) (P : PMem) (Q : Int → Mem → PMem → Prop) : Prop := Ct l y cc nL rt fr lo nm as M P (fun r M' P' => ∃ z, r = some (vI z) ∧ Q z M' P')
def CtL (l : Launch) (y : MethodName) (cc : ByteArray) (nL : Nat) (rt : Option FieldType) (fr lo nm : Nat) (as : List AV) (M : Mem) (P : PMem) (Q : Int → Mem → PMem → Prop) : Prop := Ct l y cc nL rt fr lo nm as M P (fun r M' P' => ∃ z, r = some (vL z) ∧ Q z M' P')
def CtV (l : Launch) (y : MethodName) (cc : ByteArray) (nL : Nat) (rt : Option FieldType) (fr lo nm : Nat) (as : List AV) (M : Mem) (P : PMem) (Q : Mem → PMem → Prop) : Prop := Ct l y cc nL rt fr lo nm as M P (fun r M' P' => r = none ∧ Q M' P')
theorem G_callVI {stk : List AV} {y : MethodName} {cc' : ByteArray} {nL' : Nat} {rt' : Option FieldType} {fr' lo' nm' b ci z na idx : Nat} {as : List AV} {Q : Int → Mem → PMem → Prop} (hC : OK X Y cc own nL rt fr lo nm) (hct : CtI (xl X) y cc' nL' rt' fr' lo' nm' (vR b :: as) M P Q) (hm : MV own idx y cc' nL' rt' na ci) (hs : shp b = (ci, z)) (hb : b < nm) (hnm : nm' ≤ nm) (ha : as.length = na) (hR : fr' + 1 ≤ fr ∧ 8 + (nL' + 11) + lo' ≤ lo) (d : decode cc pc = .ok (.invokevirtual idx, 3)) (hk : stk = as.reverse ++ vR b :: st) (hst : c2s st ≤ 8) (hln : L.length = nL) (kk : ∀ z M' P', Q z M' P' → G X Y (pc + 3) L (vI z :: st) M' P') : G X Y pc L stk M P :=
  G_callV hC hct hm hs hb hnm ha hR hst hln d hk (fun r M' P' h => by obtain ⟨z, rfl, hq⟩ := h; exact kk z M' P' hq)
theorem G_callSI {stk : List AV} {y : MethodName} {cc' : ByteArray} {nL' : Nat} {rt' : Option FieldType} {fr' lo' nm' na idx : Nat} {as : List AV} {Q : Int → Mem → PMem → Prop} (hC : OK X Y cc own nL rt fr lo nm) (hct : CtI (xl X) y cc' nL' rt' fr' lo' nm' as M P Q) (hm : MS own idx y cc' nL' rt' na) (hnm : nm' ≤ nm) (ha : as.length = na) (hR : fr' + 1 ≤ fr ∧ 8 + (nL' + 11) + lo' ≤ lo) (d : decode cc pc = .ok (.invokestatic idx, 3)) (hk : stk = as.reverse ++ st) (hst : c2s st ≤ 8) (hln : L.length = nL) (kk : ∀ z M' P', Q z M' P' → G X Y (pc + 3) L (vI z :: st) M' P') : G X Y pc L stk M P :=
  G_callS hC hct hm hnm ha hR hst hln d hk (fun r M' P' h => by obtain ⟨z, rfl, hq⟩ := h; exact kk z M' P' hq)
theorem G_callVL {stk : List AV} {y : MethodName} {cc' : ByteArray} {nL' : Nat} {rt' : Option FieldType} {fr' lo' nm' b ci z na idx : Nat} {as : List AV} {Q : Int → Mem → PMem → Prop} (hC : OK X Y cc own nL rt fr lo nm) (hct : CtL (xl X) y cc' nL' rt' fr' lo' nm' (vR b :: as) M P Q) (hm : MV own idx y cc' nL' rt' na ci) (hs : shp b = (ci, z)) (hb : b < nm) (hnm : nm' ≤ nm) (ha : as.length = na) (hR : fr' + 1 ≤ fr ∧ 8 + (nL' + 11) + lo' ≤ lo) (d : decode cc pc = .ok (.invokevirtual idx, 3)) (hk : stk = as.reverse ++ vR b :: st) (hst : c2s st ≤ 8) (hln : L.length = nL) (kk : ∀ z M' P', Q z M' P' → G X Y (pc + 3) L (vL z :: st) M' P') : G X Y pc L stk M P :=
  G_callV hC hct hm hs hb hnm ha hR hst hln d hk (fun r M' P' h => by obtain ⟨z, rfl, hq⟩ := h; exact kk z M' P' hq)
theorem G_callSL {stk : List AV} {y : MethodName} {cc' : ByteArray} {nL' : Nat} {rt' : Option FieldType} {fr' lo' nm' na idx : Nat} {as : List AV} {Q : Int → Mem → PMem → Prop} (hC : OK X Y cc own nL rt fr lo nm) (hct : CtL (xl X) y cc' nL' rt' fr' lo' nm' as M P Q) (hm : MS own idx y cc' nL' rt' na) (hnm : nm' ≤ nm) (ha : as.length = na) (hR : fr' + 1 ≤ fr ∧ 8 + (nL' + 11) + lo' ≤ lo) (d : decode cc pc = .ok (.invokestatic idx, 3)) (hk : stk = as.reverse ++ st) (hst : c2s st ≤ 8) (hln : L.length = nL) (kk : ∀ z M' P', Q z M' P' → G X Y (pc + 3) L (vL z :: st) M' P') : G X Y pc L stk M P :=
  G_callS hC hct hm hnm ha hR hst hln d hk (fun r M' P' h => by obtain ⟨z, rfl, hq⟩ := h; exact kk z M' P' hq)
theorem G_callVV {stk : List AV} {y : MethodName} {cc' : ByteArray} {nL' : Nat} {rt' : Option FieldType} {fr' lo' nm' b ci z na idx : Nat} {as : List AV} {Q : Mem → PMem → Prop} (hC : OK X Y cc own nL rt fr lo nm) (hct : CtV (xl X) y cc' nL' rt' fr' lo' nm' (vR b :: as) M P Q) (hm : MV own idx y cc' nL' rt' na ci) (hs : shp b = (ci, z)) (hb : b < nm) (hnm : nm' ≤ nm) (ha : as.length = na) (hR : fr' + 1 ≤ fr ∧ 8 + (nL' + 11) + lo' ≤ lo) (d : decode cc pc = .ok (.invokevirtual idx, 3)) (hk : stk = as.reverse ++ vR b :: st) (hst : c2s st ≤ 8) (hln : L.length = nL) (kk : ∀ M' P', Q M' P' → G X Y (pc + 3) L (st) M' P') : G X Y pc L stk M P :=
  G_callV hC hct hm hs hb hnm ha hR hst hln d hk (fun r M' P' h => by obtain ⟨rfl, hq⟩ := h; exact kk M' P' hq)
theorem G_callSV {stk : List AV} {y : MethodName} {cc' : ByteArray} {nL' : Nat} {rt' : Option FieldType} {fr' lo' nm' na idx : Nat} {as : List AV} {Q : Mem → PMem → Prop} (hC : OK X Y cc own nL rt fr lo nm) (hct : CtV (xl X) y cc' nL' rt' fr' lo' nm' as M P Q) (hm : MS own idx y cc' nL' rt' na) (hnm : nm' ≤ nm) (ha : as.length = na) (hR : fr' + 1 ≤ fr ∧ 8 + (nL' + 11) + lo' ≤ lo) (d : decode cc pc = .ok (.invokestatic idx, 3)) (hk : stk = as.reverse ++ st) (hst : c2s st ≤ 8) (hln : L.length = nL) (kk : ∀ M' P', Q M' P' → G X Y (pc + 3) L (st) M' P') : G X Y pc L stk M P :=
  G_callS hC hct hm hnm ha hR hst hln d hk (fun r M' P' h => by obtain ⟨rfl, hq⟩ := h; exact kk M' P' hq)
/-! Math -/
def MM (own : String) (idx : Nat) (y : MethodName) (cc : ByteArray) (nL : Nat) : Prop := Cond.methodLink own idx y ∈ lwG ∧ Cond.static y ∈ lwG ∧ Cond.initialized "java/lang/Math" ∈ lwG ∧ Cond.code y cc nL (some .int) ∈ lwG
theorem G_max {a b : Int} {idx : Nat} (hC : OK X Y cc own nL rt fr lo nm) (hm : MM own idx Lib.Math.max.name Lib.Math.max.code 2) (ha : -2147483648 ≤ a ∧ a ≤ 2147483647) (hb : -2147483648 ≤ b ∧ b ≤ 2147483647) (hln : L.length = nL) (hR : 1 ≤ fr ∧ 21 ≤ lo) (hst : c2s st ≤ 8) (d : decode cc pc = .ok (.invokestatic idx, 3)) (kk : G X Y (pc + 3) L (vI (max a b) :: st) M P) : G X Y pc L (vI b :: vI a :: st) M P := by
  obtain ⟨m1, m2, m3, m4⟩ := hm
  intro H locs ls h1 h2 h3
  have h := kk H locs ls h1 h2 h3
  have e : (if Int32.ofInt a < Int32.ofInt b then Int32.ofInt b else Int32.ofInt a) = Int32.ofInt (max a b) := by
    simp only [i32_lt ha hb]
    split
    · rw [Int.max_eq_right (by omega)]
    · rw [Int.max_eq_left (by omega)]
  refine va_mmax hC.x hC.b (hC.1.2.2.2.1.trans (hln.symm.trans h3.1.symm)) hC.o (hC.w _ m1) (hC.w _ m2) (hC.w _ m3) (hC.w _ m4) (by rw [hC.2.2.2.1.1]; exact hR.1) (by rw [c2s_ok, hC.2.2.2.1.2.1]; omega) hC.2.2.2.1.2.2.1 hC.2.2.2.1.2.2.2.1 d ?_
  rw [e]
  exact h
theorem G_min {a b : Int} {idx : Nat} (hC : OK X Y cc own nL rt fr lo nm) (hm : MM own idx Lib.Math.min.name Lib.Math.min.code 2) (ha : -2147483648 ≤ a ∧ a ≤ 2147483647) (hb : -2147483648 ≤ b ∧ b ≤ 2147483647) (hln : L.length = nL) (hR : 1 ≤ fr ∧ 21 ≤ lo) (hst : c2s st ≤ 8) (d : decode cc pc = .ok (.invokestatic idx, 3)) (kk : G X Y (pc + 3) L (vI (min a b) :: st) M P) : G X Y pc L (vI b :: vI a :: st) M P := by
  obtain ⟨m1, m2, m3, m4⟩ := hm
  intro H locs ls h1 h2 h3
  have h := kk H locs ls h1 h2 h3
  have e : (if Int32.ofInt b < Int32.ofInt a then Int32.ofInt b else Int32.ofInt a) = Int32.ofInt (min a b) := by
    simp only [i32_lt hb ha]
    split
    · rw [Int.min_eq_right (by omega)]
    · rw [Int.min_eq_left (by omega)]
  refine va_mmin hC.x hC.b (hC.1.2.2.2.1.trans (hln.symm.trans h3.1.symm)) hC.o (hC.w _ m1) (hC.w _ m2) (hC.w _ m3) (hC.w _ m4) (by rw [hC.2.2.2.1.1]; exact hR.1) (by rw [c2s_ok, hC.2.2.2.1.2.1]; omega) hC.2.2.2.1.2.2.1 hC.2.2.2.1.2.2.2.1 d ?_
  rw [e]
  exact h
theorem G_abs {a : Int} {idx : Nat} (hC : OK X Y cc own nL rt fr lo nm) (hm : MM own idx Lib.Math.abs.name Lib.Math.abs.code 1) (ha : -2147483647 ≤ a ∧ a ≤ 2147483647) (hln : L.length = nL) (hR : 1 ≤ fr ∧ 21 ≤ lo) (hst : c2s st ≤ 8) (d : decode cc pc = .ok (.invokestatic idx, 3)) (kk : G X Y (pc + 3) L (vI (if 0 ≤ a then a else -a) :: st) M P) : G X Y pc L (vI a :: st) M P := by
  obtain ⟨m1, m2, m3, m4⟩ := hm
  intro H locs ls h1 h2 h3
  have h := kk H locs ls h1 h2 h3
  have e : (if 0 ≤ Int32.ofInt a then Int32.ofInt a else 0 - Int32.ofInt a) = Int32.ofInt (if 0 ≤ a then a else -a) := by
    rw [← i32_0]
    simp only [i32_le (show -2147483648 ≤ (0 : Int) ∧ (0 : Int) ≤ 2147483647 by omega) (show -2147483648 ≤ a ∧ a ≤ 2147483647 by omega)]
    split
    · rfl
    · rw [← Int32.ofInt_sub]; simp
  refine va_mabs hC.x hC.b (hC.1.2.2.2.1.trans (hln.symm.trans h3.1.symm)) hC.o (hC.w _ m1) (hC.w _ m2) (hC.w _ m3) (hC.w _ m4) (by rw [hC.2.2.2.1.1]; exact hR.1) (by rw [c2s_ok, hC.2.2.2.1.2.1]; omega) hC.2.2.2.1.2.2.1 hC.2.2.2.1.2.2.2.1 d ?_
  rw [e]
  exact h
end LAY6
